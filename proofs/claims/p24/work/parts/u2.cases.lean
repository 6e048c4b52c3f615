section
set_option maxHeartbeats 4000000 in
set_option maxRecDepth 100000 in
theorem lk_20 {p : Program} {e : Env} {s : State} {m : MethodId} {below : List Frame} {meth : Method} {c : Code} (l : Launch) {b L9 : Nat} {xs : Nat → Int32} (C0 : lw_At p s m meth c b L9 xs) (dC : Nat → ClassId) (dI : Nat → Nat → Nat) (cI cZ cF cO : ClassId) (e0 mi : Nat) (x sl sh fa lw dr dx dy tg tx ty wy wx wz br bo aa ro za zw zx zy zg bq bp dq dp lv k0 : Nat) (hK : va_K (dC, dI) classes (zTyO cI cZ cF cO) s) (hXL : zXL e0 mi (fun q : Nat => s.heap.size ≤ q) s) (cp cl U k9 : Nat) (hk9 : 6 * k9 + 6 ≤ L9) (hL9 : L9 ≤ 3072) {H : Heap} {locs : List Loc} {ls : Array Slot} (hLI : lawI s dC dI cI cZ cF cO e0 mi x sl sh fa lw dr dx dy tg tx ty wy wx wz br bo aa ro za zw zx zy zg bq bp dq dp lv k0 k9 cp cl U H) (hS : va_S (fun q : Nat => s.heap.size ≤ q) s.heap H locs) (hl : lv_has ls 4 [(3, .int (nI (6 * k9))), (2, .ref k0), (1, .ref x), (0, .ref b)]) (hnext : ∀ (cp1 cl1 U1 : Nat) (H : Heap) (locs : List Loc) (ls : Array Slot), lawI s dC dI cI cZ cF cO e0 mi x sl sh fa lw dr dx dy tg tx ty wy wx wz br bo aa ro za zw zx zy zg bq bp dq dp lv k0 (k9 + 1) cp1 cl1 U1 H → va_S (fun q : Nat => s.heap.size ≤ q) s.heap H locs → lv_has ls 4 [(3, .int (nI (6 * k9))), (2, .ref k0), (1, .ref x), (0, .ref b)] → W p l e room_1 s m #[Value.ref b] below meth c H locs (1000 + 1010 * (k9 + 1) + cp1 + 4 * cl1) (45000 + 8192 * cp1 + 512 * cl1 + U1) (lw_Z below #[Value.ref b] s) (F0 m 1082 ls [])) : W p l e room_1 s m #[Value.ref b] below meth c H locs (1000 + 1010 * k9 + cp + 4 * cl) (45000 + 8192 * cp + 512 * cl + U) (lw_Z below #[Value.ref b] s) (F0 m 814 ls []) := by
  refine lawI_el hLI (fun L f FA ea nd nt nw ul su mc9 rd rt rw P Q TX TY WX WY AR b1 b2 b3 b4 b5 b6 b7 b8 c1 c2 c3 c4 a1 a2 a3 a4 nv RA WT EX EY GR LV y1 y2 y3 y4 a I0 J0 kd st gb it pa pb rk wd tw tn mn cx cy sa shs wh of9 we la lb lc ld P0 Q0 S0 ox oy mt wi ins T0 fl mk jx jy gr bs dn T ft Sn AD C ln FT cc W9 V VX VY hP hD hB hI hM hU => ?_)
  have hpo := shB_po hB
  have hwfS := hI.1.1
  have hd9 := hpo.1
  have h200f : ft ≤ 200 := (by rw [hd9.2.2.2.1]; exact Nat.le_trans (hpo.2.1 dn T hd9.1 hd9.2.1 (Nat.le_refl _)) hd9.2.2.2.2)
  by_cases hgd : 0 ≤ (xs (6 * k9 + 1)).toInt ∧ (xs (6 * k9 + 1)).toInt ≤ 200
  · exact lc_clashes_y l C0 dC dI cI cZ cF cO e0 mi x sl sh fa lw dr dx dy tg tx ty wy wx wz br bo aa ro za zw zx zy zg bq bp dq dp lv k0 hK hXL L f FA ea nd nt nw ul su mc9 rd rt rw P Q TX TY WX WY AR b1 b2 b3 b4 b5 b6 b7 b8 c1 c2 c3 c4 a1 a2 a3 a4 nv RA WT EX EY GR LV y1 y2 y3 y4 a I0 J0 kd st gb it pa pb rk wd tw tn mn cx cy sa shs wh of9 we la lb lc ld P0 Q0 S0 ox oy mt wi ins T0 fl mk jx jy gr bs dn T ft Sn AD C ln FT cc W9 V VX VY cp cl U k9 hk9 hL9  ⟨hP, hD⟩ hS hl hB hI hM hU hgd hnext
  · exact lc_clashes_r l C0 dC dI cI cZ cF cO e0 mi x sl sh fa lw dr dx dy tg tx ty wy wx wz br bo aa ro za zw zx zy zg bq bp dq dp lv k0 hK hXL L f FA ea nd nt nw ul su mc9 rd rt rw P Q TX TY WX WY AR b1 b2 b3 b4 b5 b6 b7 b8 c1 c2 c3 c4 a1 a2 a3 a4 nv RA WT EX EY GR LV y1 y2 y3 y4 a I0 J0 kd st gb it pa pb rk wd tw tn mn cx cy sa shs wh of9 we la lb lc ld P0 Q0 S0 ox oy mt wi ins T0 fl mk jx jy gr bs dn T ft Sn AD C ln FT cc W9 V VX VY cp cl U k9 hk9 hL9  ⟨hP, hD⟩ hS hl hB hI hM hU hgd hnext
set_option maxHeartbeats 4000000 in
set_option maxRecDepth 100000 in
theorem lk_21 {p : Program} {e : Env} {s : State} {m : MethodId} {below : List Frame} {meth : Method} {c : Code} (l : Launch) {b L9 : Nat} {xs : Nat → Int32} (C0 : lw_At p s m meth c b L9 xs) (dC : Nat → ClassId) (dI : Nat → Nat → Nat) (cI cZ cF cO : ClassId) (e0 mi : Nat) (x sl sh fa lw dr dx dy tg tx ty wy wx wz br bo aa ro za zw zx zy zg bq bp dq dp lv k0 : Nat) (hK : va_K (dC, dI) classes (zTyO cI cZ cF cO) s) (hXL : zXL e0 mi (fun q : Nat => s.heap.size ≤ q) s) (cp cl U k9 : Nat) (hk9 : 6 * k9 + 6 ≤ L9) (hL9 : L9 ≤ 3072) {H : Heap} {locs : List Loc} {ls : Array Slot} (hLI : lawI s dC dI cI cZ cF cO e0 mi x sl sh fa lw dr dx dy tg tx ty wy wx wz br bo aa ro za zw zx zy zg bq bp dq dp lv k0 k9 cp cl U H) (hS : va_S (fun q : Nat => s.heap.size ≤ q) s.heap H locs) (hl : lv_has ls 4 [(3, .int (nI (6 * k9))), (2, .ref k0), (1, .ref x), (0, .ref b)]) (hnext : ∀ (cp1 cl1 U1 : Nat) (H : Heap) (locs : List Loc) (ls : Array Slot), lawI s dC dI cI cZ cF cO e0 mi x sl sh fa lw dr dx dy tg tx ty wy wx wz br bo aa ro za zw zx zy zg bq bp dq dp lv k0 (k9 + 1) cp1 cl1 U1 H → va_S (fun q : Nat => s.heap.size ≤ q) s.heap H locs → lv_has ls 4 [(3, .int (nI (6 * k9))), (2, .ref k0), (1, .ref x), (0, .ref b)] → W p l e room_1 s m #[Value.ref b] below meth c H locs (1000 + 1010 * (k9 + 1) + cp1 + 4 * cl1) (45000 + 8192 * cp1 + 512 * cl1 + U1) (lw_Z below #[Value.ref b] s) (F0 m 1082 ls [])) : W p l e room_1 s m #[Value.ref b] below meth c H locs (1000 + 1010 * k9 + cp + 4 * cl) (45000 + 8192 * cp + 512 * cl + U) (lw_Z below #[Value.ref b] s) (F0 m 837 ls []) := by
  refine lawI_el hLI (fun L f FA ea nd nt nw ul su mc9 rd rt rw P Q TX TY WX WY AR b1 b2 b3 b4 b5 b6 b7 b8 c1 c2 c3 c4 a1 a2 a3 a4 nv RA WT EX EY GR LV y1 y2 y3 y4 a I0 J0 kd st gb it pa pb rk wd tw tn mn cx cy sa shs wh of9 we la lb lc ld P0 Q0 S0 ox oy mt wi ins T0 fl mk jx jy gr bs dn T ft Sn AD C ln FT cc W9 V VX VY hP hD hB hI hM hU => ?_)
  have hpo := shB_po hB
  have hwfS := hI.1.1
  have hd9 := hpo.1
  have h200f : ft ≤ 200 := (by rw [hd9.2.2.2.1]; exact Nat.le_trans (hpo.2.1 dn T hd9.1 hd9.2.1 (Nat.le_refl _)) hd9.2.2.2.2)
  by_cases hg : 0 ≤ (xs (6 * k9 + 1)).toInt ∧ (xs (6 * k9 + 1)).toInt ≤ 200 ∧ 0 ≤ (xs (6 * k9 + 2)).toInt ∧ 0 ≤ (xs (6 * k9 + 3)).toInt ∧ (xs (6 * k9 + 3)).toInt ≤ 1
  · have hgd : 0 ≤ (xs (6 * k9 + 1)).toInt ∧ (xs (6 * k9 + 1)).toInt ≤ 200 := ⟨hg.1, hg.2.1⟩
    obtain ⟨i5, hi5, hv2⟩ := nI_ge9 hg.2.2.1
    have hi31 : i5 < 2147483648 := (by omega)
    have hw9 : 0 ≤ (xs (6 * k9 + 3)).toInt ∧ (xs (6 * k9 + 3)).toInt ≤ 1 := ⟨hg.2.2.2.1, hg.2.2.2.2⟩
    by_cases hit : ∃ fa7 fb7, clI (clP ft st tn kd mn cx cy wd (xs (6 * k9 + 1))) ft fa7 fb7 i5
    · obtain ⟨fa7, fb7, hit9⟩ := hit
      rcases (show (xs (6 * k9 + 3)).toInt = 0 ∨ (xs (6 * k9 + 3)).toInt = 1 by omega) with e | e
      · have hv3 : xs (6 * k9 + 3) = 0 := Int32.toInt_inj.mp (by rw [e]; rfl)
        exact lc_clash_y0 l C0 dC dI cI cZ cF cO e0 mi x sl sh fa lw dr dx dy tg tx ty wy wx wz br bo aa ro za zw zx zy zg bq bp dq dp lv k0 hK hXL L f FA ea nd nt nw ul su mc9 rd rt rw P Q TX TY WX WY AR b1 b2 b3 b4 b5 b6 b7 b8 c1 c2 c3 c4 a1 a2 a3 a4 nv RA WT EX EY GR LV y1 y2 y3 y4 a I0 J0 kd st gb it pa pb rk wd tw tn mn cx cy sa shs wh of9 we la lb lc ld P0 Q0 S0 ox oy mt wi ins T0 fl mk jx jy gr bs dn T ft Sn AD C ln FT cc W9 V VX VY cp cl U k9 hk9 hL9 i5 fa7 fb7 ⟨hP, hD⟩ hS hl hB hI hM hU hgd hv2 hi31 hv3 hit9 hnext
      · have hv3 : xs (6 * k9 + 3) = 1 := Int32.toInt_inj.mp (by rw [e]; rfl)
        exact lc_clash_y1 l C0 dC dI cI cZ cF cO e0 mi x sl sh fa lw dr dx dy tg tx ty wy wx wz br bo aa ro za zw zx zy zg bq bp dq dp lv k0 hK hXL L f FA ea nd nt nw ul su mc9 rd rt rw P Q TX TY WX WY AR b1 b2 b3 b4 b5 b6 b7 b8 c1 c2 c3 c4 a1 a2 a3 a4 nv RA WT EX EY GR LV y1 y2 y3 y4 a I0 J0 kd st gb it pa pb rk wd tw tn mn cx cy sa shs wh of9 we la lb lc ld P0 Q0 S0 ox oy mt wi ins T0 fl mk jx jy gr bs dn T ft Sn AD C ln FT cc W9 V VX VY cp cl U k9 hk9 hL9 i5 fa7 fb7 ⟨hP, hD⟩ hS hl hB hI hM hU hgd hv2 hi31 hv3 hit9 hnext
    · have hit9 : ∀ fa7 fb7, ¬ clI (clP ft st tn kd mn cx cy wd (xs (6 * k9 + 1))) ft fa7 fb7 i5 := fun fa7 fb7 h => hit ⟨fa7, fb7, h⟩
      exact lc_clash_n l C0 dC dI cI cZ cF cO e0 mi x sl sh fa lw dr dx dy tg tx ty wy wx wz br bo aa ro za zw zx zy zg bq bp dq dp lv k0 hK hXL L f FA ea nd nt nw ul su mc9 rd rt rw P Q TX TY WX WY AR b1 b2 b3 b4 b5 b6 b7 b8 c1 c2 c3 c4 a1 a2 a3 a4 nv RA WT EX EY GR LV y1 y2 y3 y4 a I0 J0 kd st gb it pa pb rk wd tw tn mn cx cy sa shs wh of9 we la lb lc ld P0 Q0 S0 ox oy mt wi ins T0 fl mk jx jy gr bs dn T ft Sn AD C ln FT cc W9 V VX VY cp cl U k9 hk9 hL9 i5 ⟨hP, hD⟩ hS hl hB hI hM hU hgd hv2 hi31 hw9 hit9 hnext
  · exact lc_clash_r l C0 dC dI cI cZ cF cO e0 mi x sl sh fa lw dr dx dy tg tx ty wy wx wz br bo aa ro za zw zx zy zg bq bp dq dp lv k0 hK hXL L f FA ea nd nt nw ul su mc9 rd rt rw P Q TX TY WX WY AR b1 b2 b3 b4 b5 b6 b7 b8 c1 c2 c3 c4 a1 a2 a3 a4 nv RA WT EX EY GR LV y1 y2 y3 y4 a I0 J0 kd st gb it pa pb rk wd tw tn mn cx cy sa shs wh of9 we la lb lc ld P0 Q0 S0 ox oy mt wi ins T0 fl mk jx jy gr bs dn T ft Sn AD C ln FT cc W9 V VX VY cp cl U k9 hk9 hL9  ⟨hP, hD⟩ hS hl hB hI hM hU hg hnext
set_option maxHeartbeats 4000000 in
set_option maxRecDepth 100000 in
theorem lk_22 {p : Program} {e : Env} {s : State} {m : MethodId} {below : List Frame} {meth : Method} {c : Code} (l : Launch) {b L9 : Nat} {xs : Nat → Int32} (C0 : lw_At p s m meth c b L9 xs) (dC : Nat → ClassId) (dI : Nat → Nat → Nat) (cI cZ cF cO : ClassId) (e0 mi : Nat) (x sl sh fa lw dr dx dy tg tx ty wy wx wz br bo aa ro za zw zx zy zg bq bp dq dp lv k0 : Nat) (hK : va_K (dC, dI) classes (zTyO cI cZ cF cO) s) (hXL : zXL e0 mi (fun q : Nat => s.heap.size ≤ q) s) (cp cl U k9 : Nat) (hk9 : 6 * k9 + 6 ≤ L9) (hL9 : L9 ≤ 3072) {H : Heap} {locs : List Loc} {ls : Array Slot} (hLI : lawI s dC dI cI cZ cF cO e0 mi x sl sh fa lw dr dx dy tg tx ty wy wx wz br bo aa ro za zw zx zy zg bq bp dq dp lv k0 k9 cp cl U H) (hS : va_S (fun q : Nat => s.heap.size ≤ q) s.heap H locs) (hl : lv_has ls 4 [(3, .int (nI (6 * k9))), (2, .ref k0), (1, .ref x), (0, .ref b)]) (hnext : ∀ (cp1 cl1 U1 : Nat) (H : Heap) (locs : List Loc) (ls : Array Slot), lawI s dC dI cI cZ cF cO e0 mi x sl sh fa lw dr dx dy tg tx ty wy wx wz br bo aa ro za zw zx zy zg bq bp dq dp lv k0 (k9 + 1) cp1 cl1 U1 H → va_S (fun q : Nat => s.heap.size ≤ q) s.heap H locs → lv_has ls 4 [(3, .int (nI (6 * k9))), (2, .ref k0), (1, .ref x), (0, .ref b)] → W p l e room_1 s m #[Value.ref b] below meth c H locs (1000 + 1010 * (k9 + 1) + cp1 + 4 * cl1) (45000 + 8192 * cp1 + 512 * cl1 + U1) (lw_Z below #[Value.ref b] s) (F0 m 1082 ls [])) : W p l e room_1 s m #[Value.ref b] below meth c H locs (1000 + 1010 * k9 + cp + 4 * cl) (45000 + 8192 * cp + 512 * cl + U) (lw_Z below #[Value.ref b] s) (F0 m 880 ls []) := by
  refine lawI_el hLI (fun L f FA ea nd nt nw ul su mc9 rd rt rw P Q TX TY WX WY AR b1 b2 b3 b4 b5 b6 b7 b8 c1 c2 c3 c4 a1 a2 a3 a4 nv RA WT EX EY GR LV y1 y2 y3 y4 a I0 J0 kd st gb it pa pb rk wd tw tn mn cx cy sa shs wh of9 we la lb lc ld P0 Q0 S0 ox oy mt wi ins T0 fl mk jx jy gr bs dn T ft Sn AD C ln FT cc W9 V VX VY hP hD hB hI hM hU => ?_)
  have hpo := shB_po hB
  have hwfS := hI.1.1
  have hd9 := hpo.1
  have h200f : ft ≤ 200 := (by rw [hd9.2.2.2.1]; exact Nat.le_trans (hpo.2.1 dn T hd9.1 hd9.2.1 (Nat.le_refl _)) hd9.2.2.2.2)
  by_cases hbad : ¬ (0 ≤ (xs (6 * k9 + 1)).toInt ∧ (xs (6 * k9 + 1)).toInt < ((ft : Nat) : Int))
  · exact lc_far_x l C0 dC dI cI cZ cF cO e0 mi x sl sh fa lw dr dx dy tg tx ty wy wx wz br bo aa ro za zw zx zy zg bq bp dq dp lv k0 hK hXL L f FA ea nd nt nw ul su mc9 rd rt rw P Q TX TY WX WY AR b1 b2 b3 b4 b5 b6 b7 b8 c1 c2 c3 c4 a1 a2 a3 a4 nv RA WT EX EY GR LV y1 y2 y3 y4 a I0 J0 kd st gb it pa pb rk wd tw tn mn cx cy sa shs wh of9 we la lb lc ld P0 Q0 S0 ox oy mt wi ins T0 fl mk jx jy gr bs dn T ft Sn AD C ln FT cc W9 V VX VY cp cl U k9 hk9 hL9  ⟨hP, hD⟩ hS hl hB hI hM hU hbad hnext
  · obtain ⟨f0, hf0, hv1⟩ := nI_ex (Classical.not_not.mp hbad)
    clear hbad
    by_cases hlv : lvF ft st tn f0
    · by_cases hgd : 0 ≤ (xs (6 * k9 + 2)).toInt ∧ (xs (6 * k9 + 2)).toInt ≤ 1
      · by_cases ez0 : (xs (6 * k9 + 2)).toInt = 0
        · have hv2 : xs (6 * k9 + 2) = 0 := Int32.toInt_inj.mp (by rw [ez0]; rfl)
          exact lc_far_y0 l C0 dC dI cI cZ cF cO e0 mi x sl sh fa lw dr dx dy tg tx ty wy wx wz br bo aa ro za zw zx zy zg bq bp dq dp lv k0 hK hXL L f FA ea nd nt nw ul su mc9 rd rt rw P Q TX TY WX WY AR b1 b2 b3 b4 b5 b6 b7 b8 c1 c2 c3 c4 a1 a2 a3 a4 nv RA WT EX EY GR LV y1 y2 y3 y4 a I0 J0 kd st gb it pa pb rk wd tw tn mn cx cy sa shs wh of9 we la lb lc ld P0 Q0 S0 ox oy mt wi ins T0 fl mk jx jy gr bs dn T ft Sn AD C ln FT cc W9 V VX VY cp cl U k9 hk9 hL9 f0 ⟨hP, hD⟩ hS hl hB hI hM hU hf0 hv1 hlv hv2 hnext
        · by_cases ez1 : (xs (6 * k9 + 2)).toInt = 1
          · have hv2 : xs (6 * k9 + 2) = 1 := Int32.toInt_inj.mp (by rw [ez1]; rfl)
            exact lc_far_y1 l C0 dC dI cI cZ cF cO e0 mi x sl sh fa lw dr dx dy tg tx ty wy wx wz br bo aa ro za zw zx zy zg bq bp dq dp lv k0 hK hXL L f FA ea nd nt nw ul su mc9 rd rt rw P Q TX TY WX WY AR b1 b2 b3 b4 b5 b6 b7 b8 c1 c2 c3 c4 a1 a2 a3 a4 nv RA WT EX EY GR LV y1 y2 y3 y4 a I0 J0 kd st gb it pa pb rk wd tw tn mn cx cy sa shs wh of9 we la lb lc ld P0 Q0 S0 ox oy mt wi ins T0 fl mk jx jy gr bs dn T ft Sn AD C ln FT cc W9 V VX VY cp cl U k9 hk9 hL9 f0 ⟨hP, hD⟩ hS hl hB hI hM hU hf0 hv1 hlv hv2 hnext
          · exfalso; omega
      · exact lc_far_r l C0 dC dI cI cZ cF cO e0 mi x sl sh fa lw dr dx dy tg tx ty wy wx wz br bo aa ro za zw zx zy zg bq bp dq dp lv k0 hK hXL L f FA ea nd nt nw ul su mc9 rd rt rw P Q TX TY WX WY AR b1 b2 b3 b4 b5 b6 b7 b8 c1 c2 c3 c4 a1 a2 a3 a4 nv RA WT EX EY GR LV y1 y2 y3 y4 a I0 J0 kd st gb it pa pb rk wd tw tn mn cx cy sa shs wh of9 we la lb lc ld P0 Q0 S0 ox oy mt wi ins T0 fl mk jx jy gr bs dn T ft Sn AD C ln FT cc W9 V VX VY cp cl U k9 hk9 hL9 f0 ⟨hP, hD⟩ hS hl hB hI hM hU hf0 hv1 hlv hgd hnext
    · exact lc_far_z l C0 dC dI cI cZ cF cO e0 mi x sl sh fa lw dr dx dy tg tx ty wy wx wz br bo aa ro za zw zx zy zg bq bp dq dp lv k0 hK hXL L f FA ea nd nt nw ul su mc9 rd rt rw P Q TX TY WX WY AR b1 b2 b3 b4 b5 b6 b7 b8 c1 c2 c3 c4 a1 a2 a3 a4 nv RA WT EX EY GR LV y1 y2 y3 y4 a I0 J0 kd st gb it pa pb rk wd tw tn mn cx cy sa shs wh of9 we la lb lc ld P0 Q0 S0 ox oy mt wi ins T0 fl mk jx jy gr bs dn T ft Sn AD C ln FT cc W9 V VX VY cp cl U k9 hk9 hL9 f0 ⟨hP, hD⟩ hS hl hB hI hM hU hf0 hv1 hlv hnext
set_option maxHeartbeats 4000000 in
set_option maxRecDepth 100000 in
theorem lk_23 {p : Program} {e : Env} {s : State} {m : MethodId} {below : List Frame} {meth : Method} {c : Code} (l : Launch) {b L9 : Nat} {xs : Nat → Int32} (C0 : lw_At p s m meth c b L9 xs) (dC : Nat → ClassId) (dI : Nat → Nat → Nat) (cI cZ cF cO : ClassId) (e0 mi : Nat) (x sl sh fa lw dr dx dy tg tx ty wy wx wz br bo aa ro za zw zx zy zg bq bp dq dp lv k0 : Nat) (hK : va_K (dC, dI) classes (zTyO cI cZ cF cO) s) (hXL : zXL e0 mi (fun q : Nat => s.heap.size ≤ q) s) (cp cl U k9 : Nat) (hk9 : 6 * k9 + 6 ≤ L9) (hL9 : L9 ≤ 3072) {H : Heap} {locs : List Loc} {ls : Array Slot} (hLI : lawI s dC dI cI cZ cF cO e0 mi x sl sh fa lw dr dx dy tg tx ty wy wx wz br bo aa ro za zw zx zy zg bq bp dq dp lv k0 k9 cp cl U H) (hS : va_S (fun q : Nat => s.heap.size ≤ q) s.heap H locs) (hl : lv_has ls 4 [(3, .int (nI (6 * k9))), (2, .ref k0), (1, .ref x), (0, .ref b)]) (hnext : ∀ (cp1 cl1 U1 : Nat) (H : Heap) (locs : List Loc) (ls : Array Slot), lawI s dC dI cI cZ cF cO e0 mi x sl sh fa lw dr dx dy tg tx ty wy wx wz br bo aa ro za zw zx zy zg bq bp dq dp lv k0 (k9 + 1) cp1 cl1 U1 H → va_S (fun q : Nat => s.heap.size ≤ q) s.heap H locs → lv_has ls 4 [(3, .int (nI (6 * k9))), (2, .ref k0), (1, .ref x), (0, .ref b)] → W p l e room_1 s m #[Value.ref b] below meth c H locs (1000 + 1010 * (k9 + 1) + cp1 + 4 * cl1) (45000 + 8192 * cp1 + 512 * cl1 + U1) (lw_Z below #[Value.ref b] s) (F0 m 1082 ls [])) : W p l e room_1 s m #[Value.ref b] below meth c H locs (1000 + 1010 * k9 + cp + 4 * cl) (45000 + 8192 * cp + 512 * cl + U) (lw_Z below #[Value.ref b] s) (F0 m 914 ls []) := by
  refine lawI_el hLI (fun L f FA ea nd nt nw ul su mc9 rd rt rw P Q TX TY WX WY AR b1 b2 b3 b4 b5 b6 b7 b8 c1 c2 c3 c4 a1 a2 a3 a4 nv RA WT EX EY GR LV y1 y2 y3 y4 a I0 J0 kd st gb it pa pb rk wd tw tn mn cx cy sa shs wh of9 we la lb lc ld P0 Q0 S0 ox oy mt wi ins T0 fl mk jx jy gr bs dn T ft Sn AD C ln FT cc W9 V VX VY hP hD hB hI hM hU => ?_)
  have hpo := shB_po hB
  have hwfS := hI.1.1
  have hd9 := hpo.1
  have h200f : ft ≤ 200 := (by rw [hd9.2.2.2.1]; exact Nat.le_trans (hpo.2.1 dn T hd9.1 hd9.2.1 (Nat.le_refl _)) hd9.2.2.2.2)
  by_cases hbad : ¬ (0 ≤ (xs (6 * k9 + 1)).toInt ∧ (xs (6 * k9 + 1)).toInt < ((ft : Nat) : Int))
  · exact lc_size_x l C0 dC dI cI cZ cF cO e0 mi x sl sh fa lw dr dx dy tg tx ty wy wx wz br bo aa ro za zw zx zy zg bq bp dq dp lv k0 hK hXL L f FA ea nd nt nw ul su mc9 rd rt rw P Q TX TY WX WY AR b1 b2 b3 b4 b5 b6 b7 b8 c1 c2 c3 c4 a1 a2 a3 a4 nv RA WT EX EY GR LV y1 y2 y3 y4 a I0 J0 kd st gb it pa pb rk wd tw tn mn cx cy sa shs wh of9 we la lb lc ld P0 Q0 S0 ox oy mt wi ins T0 fl mk jx jy gr bs dn T ft Sn AD C ln FT cc W9 V VX VY cp cl U k9 hk9 hL9  ⟨hP, hD⟩ hS hl hB hI hM hU hbad hnext
  · obtain ⟨f0, hf0, hv1⟩ := nI_ex (Classical.not_not.mp hbad)
    clear hbad
    by_cases hlv : lvF ft st tn f0
    · by_cases hk : (kd f0).toInt = 0
      · exact lc_size_p l C0 dC dI cI cZ cF cO e0 mi x sl sh fa lw dr dx dy tg tx ty wy wx wz br bo aa ro za zw zx zy zg bq bp dq dp lv k0 hK hXL L f FA ea nd nt nw ul su mc9 rd rt rw P Q TX TY WX WY AR b1 b2 b3 b4 b5 b6 b7 b8 c1 c2 c3 c4 a1 a2 a3 a4 nv RA WT EX EY GR LV y1 y2 y3 y4 a I0 J0 kd st gb it pa pb rk wd tw tn mn cx cy sa shs wh of9 we la lb lc ld P0 Q0 S0 ox oy mt wi ins T0 fl mk jx jy gr bs dn T ft Sn AD C ln FT cc W9 V VX VY cp cl U k9 hk9 hL9 f0 ⟨hP, hD⟩ hS hl hB hI hM hU hf0 hv1 hlv hk hnext
      · by_cases hk5 : 5 ≤ (kd f0).toInt
        · exact lc_size_a l C0 dC dI cI cZ cF cO e0 mi x sl sh fa lw dr dx dy tg tx ty wy wx wz br bo aa ro za zw zx zy zg bq bp dq dp lv k0 hK hXL L f FA ea nd nt nw ul su mc9 rd rt rw P Q TX TY WX WY AR b1 b2 b3 b4 b5 b6 b7 b8 c1 c2 c3 c4 a1 a2 a3 a4 nv RA WT EX EY GR LV y1 y2 y3 y4 a I0 J0 kd st gb it pa pb rk wd tw tn mn cx cy sa shs wh of9 we la lb lc ld P0 Q0 S0 ox oy mt wi ins T0 fl mk jx jy gr bs dn T ft Sn AD C ln FT cc W9 V VX VY cp cl U k9 hk9 hL9 f0 ⟨hP, hD⟩ hS hl hB hI hM hU hf0 hv1 hlv hk5 hnext
        · exact lc_size_l l C0 dC dI cI cZ cF cO e0 mi x sl sh fa lw dr dx dy tg tx ty wy wx wz br bo aa ro za zw zx zy zg bq bp dq dp lv k0 hK hXL L f FA ea nd nt nw ul su mc9 rd rt rw P Q TX TY WX WY AR b1 b2 b3 b4 b5 b6 b7 b8 c1 c2 c3 c4 a1 a2 a3 a4 nv RA WT EX EY GR LV y1 y2 y3 y4 a I0 J0 kd st gb it pa pb rk wd tw tn mn cx cy sa shs wh of9 we la lb lc ld P0 Q0 S0 ox oy mt wi ins T0 fl mk jx jy gr bs dn T ft Sn AD C ln FT cc W9 V VX VY cp cl U k9 hk9 hL9 f0 ⟨hP, hD⟩ hS hl hB hI hM hU hf0 hv1 hlv ⟨hk5, hk⟩ hnext
    · exact lc_size_r l C0 dC dI cI cZ cF cO e0 mi x sl sh fa lw dr dx dy tg tx ty wy wx wz br bo aa ro za zw zx zy zg bq bp dq dp lv k0 hK hXL L f FA ea nd nt nw ul su mc9 rd rt rw P Q TX TY WX WY AR b1 b2 b3 b4 b5 b6 b7 b8 c1 c2 c3 c4 a1 a2 a3 a4 nv RA WT EX EY GR LV y1 y2 y3 y4 a I0 J0 kd st gb it pa pb rk wd tw tn mn cx cy sa shs wh of9 we la lb lc ld P0 Q0 S0 ox oy mt wi ins T0 fl mk jx jy gr bs dn T ft Sn AD C ln FT cc W9 V VX VY cp cl U k9 hk9 hL9 f0 ⟨hP, hD⟩ hS hl hB hI hM hU hf0 hv1 hlv hnext
set_option maxHeartbeats 4000000 in
set_option maxRecDepth 100000 in
theorem lk_24 {p : Program} {e : Env} {s : State} {m : MethodId} {below : List Frame} {meth : Method} {c : Code} (l : Launch) {b L9 : Nat} {xs : Nat → Int32} (C0 : lw_At p s m meth c b L9 xs) (dC : Nat → ClassId) (dI : Nat → Nat → Nat) (cI cZ cF cO : ClassId) (e0 mi : Nat) (x sl sh fa lw dr dx dy tg tx ty wy wx wz br bo aa ro za zw zx zy zg bq bp dq dp lv k0 : Nat) (hK : va_K (dC, dI) classes (zTyO cI cZ cF cO) s) (hXL : zXL e0 mi (fun q : Nat => s.heap.size ≤ q) s) (cp cl U k9 : Nat) (hk9 : 6 * k9 + 6 ≤ L9) (hL9 : L9 ≤ 3072) {H : Heap} {locs : List Loc} {ls : Array Slot} (hLI : lawI s dC dI cI cZ cF cO e0 mi x sl sh fa lw dr dx dy tg tx ty wy wx wz br bo aa ro za zw zx zy zg bq bp dq dp lv k0 k9 cp cl U H) (hS : va_S (fun q : Nat => s.heap.size ≤ q) s.heap H locs) (hl : lv_has ls 4 [(3, .int (nI (6 * k9))), (2, .ref k0), (1, .ref x), (0, .ref b)]) (hnext : ∀ (cp1 cl1 U1 : Nat) (H : Heap) (locs : List Loc) (ls : Array Slot), lawI s dC dI cI cZ cF cO e0 mi x sl sh fa lw dr dx dy tg tx ty wy wx wz br bo aa ro za zw zx zy zg bq bp dq dp lv k0 (k9 + 1) cp1 cl1 U1 H → va_S (fun q : Nat => s.heap.size ≤ q) s.heap H locs → lv_has ls 4 [(3, .int (nI (6 * k9))), (2, .ref k0), (1, .ref x), (0, .ref b)] → W p l e room_1 s m #[Value.ref b] below meth c H locs (1000 + 1010 * (k9 + 1) + cp1 + 4 * cl1) (45000 + 8192 * cp1 + 512 * cl1 + U1) (lw_Z below #[Value.ref b] s) (F0 m 1082 ls [])) : W p l e room_1 s m #[Value.ref b] below meth c H locs (1000 + 1010 * k9 + cp + 4 * cl) (45000 + 8192 * cp + 512 * cl + U) (lw_Z below #[Value.ref b] s) (F0 m 937 ls []) := by
  refine lawI_el hLI (fun L f FA ea nd nt nw ul su mc9 rd rt rw P Q TX TY WX WY AR b1 b2 b3 b4 b5 b6 b7 b8 c1 c2 c3 c4 a1 a2 a3 a4 nv RA WT EX EY GR LV y1 y2 y3 y4 a I0 J0 kd st gb it pa pb rk wd tw tn mn cx cy sa shs wh of9 we la lb lc ld P0 Q0 S0 ox oy mt wi ins T0 fl mk jx jy gr bs dn T ft Sn AD C ln FT cc W9 V VX VY hP hD hB hI hM hU => ?_)
  have hpo := shB_po hB
  have hwfS := hI.1.1
  have hd9 := hpo.1
  have h200f : ft ≤ 200 := (by rw [hd9.2.2.2.1]; exact Nat.le_trans (hpo.2.1 dn T hd9.1 hd9.2.1 (Nat.le_refl _)) hd9.2.2.2.2)
  by_cases hbad : ¬ (0 ≤ (xs (6 * k9 + 1)).toInt ∧ (xs (6 * k9 + 1)).toInt < ((ft : Nat) : Int))
  · exact lc_at_x l C0 dC dI cI cZ cF cO e0 mi x sl sh fa lw dr dx dy tg tx ty wy wx wz br bo aa ro za zw zx zy zg bq bp dq dp lv k0 hK hXL L f FA ea nd nt nw ul su mc9 rd rt rw P Q TX TY WX WY AR b1 b2 b3 b4 b5 b6 b7 b8 c1 c2 c3 c4 a1 a2 a3 a4 nv RA WT EX EY GR LV y1 y2 y3 y4 a I0 J0 kd st gb it pa pb rk wd tw tn mn cx cy sa shs wh of9 we la lb lc ld P0 Q0 S0 ox oy mt wi ins T0 fl mk jx jy gr bs dn T ft Sn AD C ln FT cc W9 V VX VY cp cl U k9 hk9 hL9  ⟨hP, hD⟩ hS hl hB hI hM hU hbad hnext
  · obtain ⟨f0, hf0, hv1⟩ := nI_ex (Classical.not_not.mp hbad)
    clear hbad
    by_cases hg : (tn f0).toInt = 0 ∧ 0 ≤ (xs (6 * k9 + 2)).toInt ∧ (xs (6 * k9 + 2)).toInt < ((nN (mn f0) : Nat) : Int)
    · have htn := hg.1
      obtain ⟨kk, hkk, hv2⟩ := nI_ex hg.2
      by_cases ez0 : (xs (6 * k9 + 3)).toInt = 0
      · have hv3 : xs (6 * k9 + 3) = 0 := Int32.toInt_inj.mp (by rw [ez0]; rfl)
        exact lc_at_0 l C0 dC dI cI cZ cF cO e0 mi x sl sh fa lw dr dx dy tg tx ty wy wx wz br bo aa ro za zw zx zy zg bq bp dq dp lv k0 hK hXL L f FA ea nd nt nw ul su mc9 rd rt rw P Q TX TY WX WY AR b1 b2 b3 b4 b5 b6 b7 b8 c1 c2 c3 c4 a1 a2 a3 a4 nv RA WT EX EY GR LV y1 y2 y3 y4 a I0 J0 kd st gb it pa pb rk wd tw tn mn cx cy sa shs wh of9 we la lb lc ld P0 Q0 S0 ox oy mt wi ins T0 fl mk jx jy gr bs dn T ft Sn AD C ln FT cc W9 V VX VY cp cl U k9 hk9 hL9 f0 kk ⟨hP, hD⟩ hS hl hB hI hM hU hf0 hv1 hv2 htn hkk hv3 hnext
      · by_cases ez1 : (xs (6 * k9 + 3)).toInt = 1
        · have hv3 : xs (6 * k9 + 3) = 1 := Int32.toInt_inj.mp (by rw [ez1]; rfl)
          exact lc_at_1 l C0 dC dI cI cZ cF cO e0 mi x sl sh fa lw dr dx dy tg tx ty wy wx wz br bo aa ro za zw zx zy zg bq bp dq dp lv k0 hK hXL L f FA ea nd nt nw ul su mc9 rd rt rw P Q TX TY WX WY AR b1 b2 b3 b4 b5 b6 b7 b8 c1 c2 c3 c4 a1 a2 a3 a4 nv RA WT EX EY GR LV y1 y2 y3 y4 a I0 J0 kd st gb it pa pb rk wd tw tn mn cx cy sa shs wh of9 we la lb lc ld P0 Q0 S0 ox oy mt wi ins T0 fl mk jx jy gr bs dn T ft Sn AD C ln FT cc W9 V VX VY cp cl U k9 hk9 hL9 f0 kk ⟨hP, hD⟩ hS hl hB hI hM hU hf0 hv1 hv2 htn hkk hv3 hnext
        · exact lc_at_d l C0 dC dI cI cZ cF cO e0 mi x sl sh fa lw dr dx dy tg tx ty wy wx wz br bo aa ro za zw zx zy zg bq bp dq dp lv k0 hK hXL L f FA ea nd nt nw ul su mc9 rd rt rw P Q TX TY WX WY AR b1 b2 b3 b4 b5 b6 b7 b8 c1 c2 c3 c4 a1 a2 a3 a4 nv RA WT EX EY GR LV y1 y2 y3 y4 a I0 J0 kd st gb it pa pb rk wd tw tn mn cx cy sa shs wh of9 we la lb lc ld P0 Q0 S0 ox oy mt wi ins T0 fl mk jx jy gr bs dn T ft Sn AD C ln FT cc W9 V VX VY cp cl U k9 hk9 hL9 f0 kk ⟨hP, hD⟩ hS hl hB hI hM hU hf0 hv1 hv2 htn hkk ⟨ez0, ez1⟩ hnext
    · exact lc_at_r l C0 dC dI cI cZ cF cO e0 mi x sl sh fa lw dr dx dy tg tx ty wy wx wz br bo aa ro za zw zx zy zg bq bp dq dp lv k0 hK hXL L f FA ea nd nt nw ul su mc9 rd rt rw P Q TX TY WX WY AR b1 b2 b3 b4 b5 b6 b7 b8 c1 c2 c3 c4 a1 a2 a3 a4 nv RA WT EX EY GR LV y1 y2 y3 y4 a I0 J0 kd st gb it pa pb rk wd tw tn mn cx cy sa shs wh of9 we la lb lc ld P0 Q0 S0 ox oy mt wi ins T0 fl mk jx jy gr bs dn T ft Sn AD C ln FT cc W9 V VX VY cp cl U k9 hk9 hL9 f0 ⟨hP, hD⟩ hS hl hB hI hM hU hf0 hv1 hg hnext
set_option maxHeartbeats 4000000 in
set_option maxRecDepth 100000 in
theorem lk_25 {p : Program} {e : Env} {s : State} {m : MethodId} {below : List Frame} {meth : Method} {c : Code} (l : Launch) {b L9 : Nat} {xs : Nat → Int32} (C0 : lw_At p s m meth c b L9 xs) (dC : Nat → ClassId) (dI : Nat → Nat → Nat) (cI cZ cF cO : ClassId) (e0 mi : Nat) (x sl sh fa lw dr dx dy tg tx ty wy wx wz br bo aa ro za zw zx zy zg bq bp dq dp lv k0 : Nat) (hK : va_K (dC, dI) classes (zTyO cI cZ cF cO) s) (hXL : zXL e0 mi (fun q : Nat => s.heap.size ≤ q) s) (cp cl U k9 : Nat) (hk9 : 6 * k9 + 6 ≤ L9) (hL9 : L9 ≤ 3072) {H : Heap} {locs : List Loc} {ls : Array Slot} (hLI : lawI s dC dI cI cZ cF cO e0 mi x sl sh fa lw dr dx dy tg tx ty wy wx wz br bo aa ro za zw zx zy zg bq bp dq dp lv k0 k9 cp cl U H) (hS : va_S (fun q : Nat => s.heap.size ≤ q) s.heap H locs) (hl : lv_has ls 4 [(3, .int (nI (6 * k9))), (2, .ref k0), (1, .ref x), (0, .ref b)]) (hnext : ∀ (cp1 cl1 U1 : Nat) (H : Heap) (locs : List Loc) (ls : Array Slot), lawI s dC dI cI cZ cF cO e0 mi x sl sh fa lw dr dx dy tg tx ty wy wx wz br bo aa ro za zw zx zy zg bq bp dq dp lv k0 (k9 + 1) cp1 cl1 U1 H → va_S (fun q : Nat => s.heap.size ≤ q) s.heap H locs → lv_has ls 4 [(3, .int (nI (6 * k9))), (2, .ref k0), (1, .ref x), (0, .ref b)] → W p l e room_1 s m #[Value.ref b] below meth c H locs (1000 + 1010 * (k9 + 1) + cp1 + 4 * cl1) (45000 + 8192 * cp1 + 512 * cl1 + U1) (lw_Z below #[Value.ref b] s) (F0 m 1082 ls [])) : W p l e room_1 s m #[Value.ref b] below meth c H locs (1000 + 1010 * k9 + cp + 4 * cl) (45000 + 8192 * cp + 512 * cl + U) (lw_Z below #[Value.ref b] s) (F0 m 980 ls []) := by
  refine lawI_el hLI (fun L f FA ea nd nt nw ul su mc9 rd rt rw P Q TX TY WX WY AR b1 b2 b3 b4 b5 b6 b7 b8 c1 c2 c3 c4 a1 a2 a3 a4 nv RA WT EX EY GR LV y1 y2 y3 y4 a I0 J0 kd st gb it pa pb rk wd tw tn mn cx cy sa shs wh of9 we la lb lc ld P0 Q0 S0 ox oy mt wi ins T0 fl mk jx jy gr bs dn T ft Sn AD C ln FT cc W9 V VX VY hP hD hB hI hM hU => ?_)
  have hpo := shB_po hB
  have hwfS := hI.1.1
  have hd9 := hpo.1
  have h200f : ft ≤ 200 := (by rw [hd9.2.2.2.1]; exact Nat.le_trans (hpo.2.1 dn T hd9.1 hd9.2.1 (Nat.le_refl _)) hd9.2.2.2.2)
  by_cases hbad : ¬ (0 ≤ (xs (6 * k9 + 1)).toInt ∧ (xs (6 * k9 + 1)).toInt < ((ft : Nat) : Int))
  · exact lc_told_x l C0 dC dI cI cZ cF cO e0 mi x sl sh fa lw dr dx dy tg tx ty wy wx wz br bo aa ro za zw zx zy zg bq bp dq dp lv k0 hK hXL L f FA ea nd nt nw ul su mc9 rd rt rw P Q TX TY WX WY AR b1 b2 b3 b4 b5 b6 b7 b8 c1 c2 c3 c4 a1 a2 a3 a4 nv RA WT EX EY GR LV y1 y2 y3 y4 a I0 J0 kd st gb it pa pb rk wd tw tn mn cx cy sa shs wh of9 we la lb lc ld P0 Q0 S0 ox oy mt wi ins T0 fl mk jx jy gr bs dn T ft Sn AD C ln FT cc W9 V VX VY cp cl U k9 hk9 hL9  ⟨hP, hD⟩ hS hl hB hI hM hU hbad hnext
  · obtain ⟨f0, hf0, hv1⟩ := nI_ex (Classical.not_not.mp hbad)
    clear hbad
    exact lc_told_a l C0 dC dI cI cZ cF cO e0 mi x sl sh fa lw dr dx dy tg tx ty wy wx wz br bo aa ro za zw zx zy zg bq bp dq dp lv k0 hK hXL L f FA ea nd nt nw ul su mc9 rd rt rw P Q TX TY WX WY AR b1 b2 b3 b4 b5 b6 b7 b8 c1 c2 c3 c4 a1 a2 a3 a4 nv RA WT EX EY GR LV y1 y2 y3 y4 a I0 J0 kd st gb it pa pb rk wd tw tn mn cx cy sa shs wh of9 we la lb lc ld P0 Q0 S0 ox oy mt wi ins T0 fl mk jx jy gr bs dn T ft Sn AD C ln FT cc W9 V VX VY cp cl U k9 hk9 hL9 f0 ⟨hP, hD⟩ hS hl hB hI hM hU hf0 hv1 hnext
set_option maxHeartbeats 4000000 in
set_option maxRecDepth 100000 in
theorem lk_26 {p : Program} {e : Env} {s : State} {m : MethodId} {below : List Frame} {meth : Method} {c : Code} (l : Launch) {b L9 : Nat} {xs : Nat → Int32} (C0 : lw_At p s m meth c b L9 xs) (dC : Nat → ClassId) (dI : Nat → Nat → Nat) (cI cZ cF cO : ClassId) (e0 mi : Nat) (x sl sh fa lw dr dx dy tg tx ty wy wx wz br bo aa ro za zw zx zy zg bq bp dq dp lv k0 : Nat) (hK : va_K (dC, dI) classes (zTyO cI cZ cF cO) s) (hXL : zXL e0 mi (fun q : Nat => s.heap.size ≤ q) s) (cp cl U k9 : Nat) (hk9 : 6 * k9 + 6 ≤ L9) (hL9 : L9 ≤ 3072) {H : Heap} {locs : List Loc} {ls : Array Slot} (hLI : lawI s dC dI cI cZ cF cO e0 mi x sl sh fa lw dr dx dy tg tx ty wy wx wz br bo aa ro za zw zx zy zg bq bp dq dp lv k0 k9 cp cl U H) (hS : va_S (fun q : Nat => s.heap.size ≤ q) s.heap H locs) (hl : lv_has ls 4 [(3, .int (nI (6 * k9))), (2, .ref k0), (1, .ref x), (0, .ref b)]) (hnext : ∀ (cp1 cl1 U1 : Nat) (H : Heap) (locs : List Loc) (ls : Array Slot), lawI s dC dI cI cZ cF cO e0 mi x sl sh fa lw dr dx dy tg tx ty wy wx wz br bo aa ro za zw zx zy zg bq bp dq dp lv k0 (k9 + 1) cp1 cl1 U1 H → va_S (fun q : Nat => s.heap.size ≤ q) s.heap H locs → lv_has ls 4 [(3, .int (nI (6 * k9))), (2, .ref k0), (1, .ref x), (0, .ref b)] → W p l e room_1 s m #[Value.ref b] below meth c H locs (1000 + 1010 * (k9 + 1) + cp1 + 4 * cl1) (45000 + 8192 * cp1 + 512 * cl1 + U1) (lw_Z below #[Value.ref b] s) (F0 m 1082 ls [])) : W p l e room_1 s m #[Value.ref b] below meth c H locs (1000 + 1010 * k9 + cp + 4 * cl) (45000 + 8192 * cp + 512 * cl + U) (lw_Z below #[Value.ref b] s) (F0 m 1013 ls []) := by
  refine lawI_el hLI (fun L f FA ea nd nt nw ul su mc9 rd rt rw P Q TX TY WX WY AR b1 b2 b3 b4 b5 b6 b7 b8 c1 c2 c3 c4 a1 a2 a3 a4 nv RA WT EX EY GR LV y1 y2 y3 y4 a I0 J0 kd st gb it pa pb rk wd tw tn mn cx cy sa shs wh of9 we la lb lc ld P0 Q0 S0 ox oy mt wi ins T0 fl mk jx jy gr bs dn T ft Sn AD C ln FT cc W9 V VX VY hP hD hB hI hM hU => ?_)
  have hpo := shB_po hB
  have hwfS := hI.1.1
  have hd9 := hpo.1
  have h200f : ft ≤ 200 := (by rw [hd9.2.2.2.1]; exact Nat.le_trans (hpo.2.1 dn T hd9.1 hd9.2.1 (Nat.le_refl _)) hd9.2.2.2.2)
  by_cases hg : 1 ≤ (xs (6 * k9 + 1)).toInt ∧ (xs (6 * k9 + 1)).toInt ≤ ((T : Nat) : Int)
  · obtain ⟨i5, h5, hv1⟩ := nI_ex (v := xs (6 * k9 + 1)) (n := T + 1) ⟨by omega, by omega⟩
    have e5 : (xs (6 * k9 + 1)).toInt = ((i5 : Nat) : Int) := (by rw [hv1, nI_toInt (by have := hpo.1.2.2.1; omega)])
    exact lc_step_a l C0 dC dI cI cZ cF cO e0 mi x sl sh fa lw dr dx dy tg tx ty wy wx wz br bo aa ro za zw zx zy zg bq bp dq dp lv k0 hK hXL L f FA ea nd nt nw ul su mc9 rd rt rw P Q TX TY WX WY AR b1 b2 b3 b4 b5 b6 b7 b8 c1 c2 c3 c4 a1 a2 a3 a4 nv RA WT EX EY GR LV y1 y2 y3 y4 a I0 J0 kd st gb it pa pb rk wd tw tn mn cx cy sa shs wh of9 we la lb lc ld P0 Q0 S0 ox oy mt wi ins T0 fl mk jx jy gr bs dn T ft Sn AD C ln FT cc W9 V VX VY cp cl U k9 hk9 hL9 i5 ⟨hP, hD⟩ hS hl hB hI hM hU hv1 ⟨by omega, by omega⟩ hnext
  · exact lc_step_x l C0 dC dI cI cZ cF cO e0 mi x sl sh fa lw dr dx dy tg tx ty wy wx wz br bo aa ro za zw zx zy zg bq bp dq dp lv k0 hK hXL L f FA ea nd nt nw ul su mc9 rd rt rw P Q TX TY WX WY AR b1 b2 b3 b4 b5 b6 b7 b8 c1 c2 c3 c4 a1 a2 a3 a4 nv RA WT EX EY GR LV y1 y2 y3 y4 a I0 J0 kd st gb it pa pb rk wd tw tn mn cx cy sa shs wh of9 we la lb lc ld P0 Q0 S0 ox oy mt wi ins T0 fl mk jx jy gr bs dn T ft Sn AD C ln FT cc W9 V VX VY cp cl U k9 hk9 hL9  ⟨hP, hD⟩ hS hl hB hI hM hU hg hnext
set_option maxHeartbeats 4000000 in
set_option maxRecDepth 100000 in
theorem lk_27 {p : Program} {e : Env} {s : State} {m : MethodId} {below : List Frame} {meth : Method} {c : Code} (l : Launch) {b L9 : Nat} {xs : Nat → Int32} (C0 : lw_At p s m meth c b L9 xs) (dC : Nat → ClassId) (dI : Nat → Nat → Nat) (cI cZ cF cO : ClassId) (e0 mi : Nat) (x sl sh fa lw dr dx dy tg tx ty wy wx wz br bo aa ro za zw zx zy zg bq bp dq dp lv k0 : Nat) (hK : va_K (dC, dI) classes (zTyO cI cZ cF cO) s) (hXL : zXL e0 mi (fun q : Nat => s.heap.size ≤ q) s) (cp cl U k9 : Nat) (hk9 : 6 * k9 + 6 ≤ L9) (hL9 : L9 ≤ 3072) {H : Heap} {locs : List Loc} {ls : Array Slot} (hLI : lawI s dC dI cI cZ cF cO e0 mi x sl sh fa lw dr dx dy tg tx ty wy wx wz br bo aa ro za zw zx zy zg bq bp dq dp lv k0 k9 cp cl U H) (hS : va_S (fun q : Nat => s.heap.size ≤ q) s.heap H locs) (hl : lv_has ls 4 [(3, .int (nI (6 * k9))), (2, .ref k0), (1, .ref x), (0, .ref b)]) (hnext : ∀ (cp1 cl1 U1 : Nat) (H : Heap) (locs : List Loc) (ls : Array Slot), lawI s dC dI cI cZ cF cO e0 mi x sl sh fa lw dr dx dy tg tx ty wy wx wz br bo aa ro za zw zx zy zg bq bp dq dp lv k0 (k9 + 1) cp1 cl1 U1 H → va_S (fun q : Nat => s.heap.size ≤ q) s.heap H locs → lv_has ls 4 [(3, .int (nI (6 * k9))), (2, .ref k0), (1, .ref x), (0, .ref b)] → W p l e room_1 s m #[Value.ref b] below meth c H locs (1000 + 1010 * (k9 + 1) + cp1 + 4 * cl1) (45000 + 8192 * cp1 + 512 * cl1 + U1) (lw_Z below #[Value.ref b] s) (F0 m 1082 ls [])) : W p l e room_1 s m #[Value.ref b] below meth c H locs (1000 + 1010 * k9 + cp + 4 * cl) (45000 + 8192 * cp + 512 * cl + U) (lw_Z below #[Value.ref b] s) (F0 m 1046 ls []) := by
  refine lawI_el hLI (fun L f FA ea nd nt nw ul su mc9 rd rt rw P Q TX TY WX WY AR b1 b2 b3 b4 b5 b6 b7 b8 c1 c2 c3 c4 a1 a2 a3 a4 nv RA WT EX EY GR LV y1 y2 y3 y4 a I0 J0 kd st gb it pa pb rk wd tw tn mn cx cy sa shs wh of9 we la lb lc ld P0 Q0 S0 ox oy mt wi ins T0 fl mk jx jy gr bs dn T ft Sn AD C ln FT cc W9 V VX VY hP hD hB hI hM hU => ?_)
  have hpo := shB_po hB
  have hwfS := hI.1.1
  have hd9 := hpo.1
  have h200f : ft ≤ 200 := (by rw [hd9.2.2.2.1]; exact Nat.le_trans (hpo.2.1 dn T hd9.1 hd9.2.1 (Nat.le_refl _)) hd9.2.2.2.2)
  exact lc_count_a l C0 dC dI cI cZ cF cO e0 mi x sl sh fa lw dr dx dy tg tx ty wy wx wz br bo aa ro za zw zx zy zg bq bp dq dp lv k0 hK hXL L f FA ea nd nt nw ul su mc9 rd rt rw P Q TX TY WX WY AR b1 b2 b3 b4 b5 b6 b7 b8 c1 c2 c3 c4 a1 a2 a3 a4 nv RA WT EX EY GR LV y1 y2 y3 y4 a I0 J0 kd st gb it pa pb rk wd tw tn mn cx cy sa shs wh of9 we la lb lc ld P0 Q0 S0 ox oy mt wi ins T0 fl mk jx jy gr bs dn T ft Sn AD C ln FT cc W9 V VX VY cp cl U k9 hk9 hL9  ⟨hP, hD⟩ hS hl hB hI hM hU  hnext
set_option maxHeartbeats 4000000 in
set_option maxRecDepth 100000 in
theorem lk_28 {p : Program} {e : Env} {s : State} {m : MethodId} {below : List Frame} {meth : Method} {c : Code} (l : Launch) {b L9 : Nat} {xs : Nat → Int32} (C0 : lw_At p s m meth c b L9 xs) (dC : Nat → ClassId) (dI : Nat → Nat → Nat) (cI cZ cF cO : ClassId) (e0 mi : Nat) (x sl sh fa lw dr dx dy tg tx ty wy wx wz br bo aa ro za zw zx zy zg bq bp dq dp lv k0 : Nat) (hK : va_K (dC, dI) classes (zTyO cI cZ cF cO) s) (hXL : zXL e0 mi (fun q : Nat => s.heap.size ≤ q) s) (cp cl U k9 : Nat) (hk9 : 6 * k9 + 6 ≤ L9) (hL9 : L9 ≤ 3072) {H : Heap} {locs : List Loc} {ls : Array Slot} (hLI : lawI s dC dI cI cZ cF cO e0 mi x sl sh fa lw dr dx dy tg tx ty wy wx wz br bo aa ro za zw zx zy zg bq bp dq dp lv k0 k9 cp cl U H) (hS : va_S (fun q : Nat => s.heap.size ≤ q) s.heap H locs) (hl : lv_has ls 4 [(3, .int (nI (6 * k9))), (2, .ref k0), (1, .ref x), (0, .ref b)]) (hnext : ∀ (cp1 cl1 U1 : Nat) (H : Heap) (locs : List Loc) (ls : Array Slot), lawI s dC dI cI cZ cF cO e0 mi x sl sh fa lw dr dx dy tg tx ty wy wx wz br bo aa ro za zw zx zy zg bq bp dq dp lv k0 (k9 + 1) cp1 cl1 U1 H → va_S (fun q : Nat => s.heap.size ≤ q) s.heap H locs → lv_has ls 4 [(3, .int (nI (6 * k9))), (2, .ref k0), (1, .ref x), (0, .ref b)] → W p l e room_1 s m #[Value.ref b] below meth c H locs (1000 + 1010 * (k9 + 1) + cp1 + 4 * cl1) (45000 + 8192 * cp1 + 512 * cl1 + U1) (lw_Z below #[Value.ref b] s) (F0 m 1082 ls [])) : W p l e room_1 s m #[Value.ref b] below meth c H locs (1000 + 1010 * k9 + cp + 4 * cl) (45000 + 8192 * cp + 512 * cl + U) (lw_Z below #[Value.ref b] s) (F0 m 1069 ls []) := by
  refine lawI_el hLI (fun L f FA ea nd nt nw ul su mc9 rd rt rw P Q TX TY WX WY AR b1 b2 b3 b4 b5 b6 b7 b8 c1 c2 c3 c4 a1 a2 a3 a4 nv RA WT EX EY GR LV y1 y2 y3 y4 a I0 J0 kd st gb it pa pb rk wd tw tn mn cx cy sa shs wh of9 we la lb lc ld P0 Q0 S0 ox oy mt wi ins T0 fl mk jx jy gr bs dn T ft Sn AD C ln FT cc W9 V VX VY hP hD hB hI hM hU => ?_)
  have hpo := shB_po hB
  have hwfS := hI.1.1
  have hd9 := hpo.1
  have h200f : ft ≤ 200 := (by rw [hd9.2.2.2.1]; exact Nat.le_trans (hpo.2.1 dn T hd9.1 hd9.2.1 (Nat.le_refl _)) hd9.2.2.2.2)
  exact lc_status l C0 dC dI cI cZ cF cO e0 mi x sl sh fa lw dr dx dy tg tx ty wy wx wz br bo aa ro za zw zx zy zg bq bp dq dp lv k0 hK hXL L f FA ea nd nt nw ul su mc9 rd rt rw P Q TX TY WX WY AR b1 b2 b3 b4 b5 b6 b7 b8 c1 c2 c3 c4 a1 a2 a3 a4 nv RA WT EX EY GR LV y1 y2 y3 y4 a I0 J0 kd st gb it pa pb rk wd tw tn mn cx cy sa shs wh of9 we la lb lc ld P0 Q0 S0 ox oy mt wi ins T0 fl mk jx jy gr bs dn T ft Sn AD C ln FT cc W9 V VX VY cp cl U k9 hk9 hL9  ⟨hP, hD⟩ hS hl hB hI hM hU  hnext
end
section
set_option maxHeartbeats 4000000 in
set_option maxRecDepth 100000 in
theorem lawI_K {s : State} (dC : Nat → ClassId) (dI : Nat → Nat → Nat) (cI cZ cF cO : ClassId) (e0 mi : Nat) (x sl sh fa lw dr dx dy tg tx ty wy wx wz br bo aa ro za zw zx zy zg bq bp dq dp lv k0 : Nat) {K cp cl U : Nat} {H : Heap} (h : lawI s dC dI cI cZ cF cO e0 mi x sl sh fa lw dr dx dy tg tx ty wy wx wz br bo aa ro za zw zx zy zg bq bp dq dp lv k0 K cp cl U H) : lawI s dC dI cI cZ cF cO e0 mi x sl sh fa lw dr dx dy tg tx ty wy wx wz br bo aa ro za zw zx zy zg bq bp dq dp lv k0 (K + 1) cp cl U H := by
  refine lawI_el h (fun L f FA ea nd nt nw ul su mc9 rd rt rw P Q TX TY WX WY AR b1 b2 b3 b4 b5 b6 b7 b8 c1 c2 c3 c4 a1 a2 a3 a4 nv RA WT EX EY GR LV y1 y2 y3 y4 a I0 J0 kd st gb it pa pb rk wd tw tn mn cx cy sa shs wh of9 we la lb lc ld P0 Q0 S0 ox oy mt wi ins T0 fl mk jx jy gr bs dn T ft Sn AD C ln FT cc W9 V VX VY hP hD hB hI hM hU => ?_)
  exact lawI_in L f FA ea nd nt nw ul su mc9 rd rt rw P Q TX TY WX WY AR b1 b2 b3 b4 b5 b6 b7 b8 c1 c2 c3 c4 a1 a2 a3 a4 nv RA WT EX EY GR LV y1 y2 y3 y4 a I0 J0 kd st gb it pa pb rk wd tw tn mn cx cy sa shs wh of9 we la lb lc ld P0 Q0 S0 ox oy mt wi ins T0 fl mk jx jy gr bs dn T ft Sn AD C ln FT cc W9 V VX VY hP hD hB (INV_K hI) hM hU
set_option maxHeartbeats 4000000 in
set_option maxRecDepth 100000 in
theorem law_turn {p : Program} {e : Env} {s : State} {m : MethodId} {below : List Frame} {meth : Method} {c : Code} (l : Launch) {b L9 : Nat} {xs : Nat → Int32} (C0 : lw_At p s m meth c b L9 xs) (dC : Nat → ClassId) (dI : Nat → Nat → Nat) (cI cZ cF cO : ClassId) (e0 mi : Nat) (x sl sh fa lw dr dx dy tg tx ty wy wx wz br bo aa ro za zw zx zy zg bq bp dq dp lv k0 : Nat) (hK : va_K (dC, dI) classes (zTyO cI cZ cF cO) s) (hXL : zXL e0 mi (fun q : Nat => s.heap.size ≤ q) s) (cp cl U k9 : Nat) (hk9 : 6 * k9 + 6 ≤ L9) (hL9 : L9 ≤ 3072) {H : Heap} {locs : List Loc} {ls : Array Slot} (hLI : lawI s dC dI cI cZ cF cO e0 mi x sl sh fa lw dr dx dy tg tx ty wy wx wz br bo aa ro za zw zx zy zg bq bp dq dp lv k0 k9 cp cl U H) (hS : va_S (fun q : Nat => s.heap.size ≤ q) s.heap H locs) (hl : lv_has ls 4 [(3, .int (nI (6 * k9))), (2, .ref k0), (1, .ref x), (0, .ref b)]) (hnext : ∀ (cp1 cl1 U1 : Nat) (H : Heap) (locs : List Loc) (ls : Array Slot), lawI s dC dI cI cZ cF cO e0 mi x sl sh fa lw dr dx dy tg tx ty wy wx wz br bo aa ro za zw zx zy zg bq bp dq dp lv k0 (k9 + 1) cp1 cl1 U1 H → va_S (fun q : Nat => s.heap.size ≤ q) s.heap H locs → lv_has ls 4 [(3, .int (nI (6 * k9))), (2, .ref k0), (1, .ref x), (0, .ref b)] → W p l e room_1 s m #[Value.ref b] below meth c H locs (1000 + 1010 * (k9 + 1) + cp1 + 4 * cl1) (45000 + 8192 * cp1 + 512 * cl1 + U1) (lw_Z below #[Value.ref b] s) (F0 m 1082 ls [])) : W p l e room_1 s m #[Value.ref b] below meth c H locs (1000 + 1010 * k9 + cp + 4 * cl) (45000 + 8192 * cp + 512 * cl + U) (lw_Z below #[Value.ref b] s) (F0 m 27 ls []) := by
  obtain ⟨hx, hb, hr, hml, hown, hts1, hX, hbl, hlocks, hgv⟩ := id C0
  have hts : ∀ w9 ∈ ws0, w9.before #[Value.ref b] s = true := fun w9 h => hts1 w9 (List.mem_filter.mp h).1
  have hA : ∀ q : Nat, s.heap.size ≤ q → (fun q : Nat => s.heap.size ≤ q) q := fun _ h => h
  have hbA : ¬ (fun q : Nat => s.heap.size ≤ q) b := Nat.not_le.mpr hbl
  refine lv_aload_n hx hb dL_law_27 rfl (lv_at hl 3 rfl) ?_
  refine lv_iload_n hx hb dL_law_28 rfl (lv_at hl 0 rfl) ?_
  refine va_sld hx hb hX hbl hbA hS (vp_in_nI (n := 6 * k9) (N := L9) (by omega) (by omega)) dL_law_29 ?_
  refine lv_bipush (v := 31) hx hb dL_law_30 (by decide) ?_
  refine lv_iand hx hb dL_law_32 ?_
  obtain ⟨j, hj, ej⟩ := pk_andE (xs (Int32.toNatClampNeg (nI (6 * k9)))) (m := 31) 5 (by decide)
  refine zz_i (v := nI j) ej ?_
  match j, hj with
  | 0, _ =>
    refine zz_i (v := 0) (by decide) ?_
    refine lv_tableIn (tgt := 164) (off := 131) hx hb dL_law_33 (by decide) (by decide) (by decide) (by decide) ?_
    exact lk_0 l C0 dC dI cI cZ cF cO e0 mi x sl sh fa lw dr dx dy tg tx ty wy wx wz br bo aa ro za zw zx zy zg bq bp dq dp lv k0 hK hXL cp cl U k9 hk9 hL9 hLI hS hl hnext
  | 1, _ =>
    refine zz_i (v := 1) (by decide) ?_
    refine lv_tableIn (tgt := 217) (off := 184) hx hb dL_law_33 (by decide) (by decide) (by decide) (by decide) ?_
    exact lk_1 l C0 dC dI cI cZ cF cO e0 mi x sl sh fa lw dr dx dy tg tx ty wy wx wz br bo aa ro za zw zx zy zg bq bp dq dp lv k0 hK hXL cp cl U k9 hk9 hL9 hLI hS hl hnext
  | 2, _ =>
    refine zz_i (v := 2) (by decide) ?_
    refine lv_tableIn (tgt := 260) (off := 227) hx hb dL_law_33 (by decide) (by decide) (by decide) (by decide) ?_
    exact lk_2 l C0 dC dI cI cZ cF cO e0 mi x sl sh fa lw dr dx dy tg tx ty wy wx wz br bo aa ro za zw zx zy zg bq bp dq dp lv k0 hK hXL cp cl U k9 hk9 hL9 hLI hS hl hnext
  | 3, _ =>
    refine zz_i (v := 3) (by decide) ?_
    refine lv_tableIn (tgt := 283) (off := 250) hx hb dL_law_33 (by decide) (by decide) (by decide) (by decide) ?_
    exact lk_3 l C0 dC dI cI cZ cF cO e0 mi x sl sh fa lw dr dx dy tg tx ty wy wx wz br bo aa ro za zw zx zy zg bq bp dq dp lv k0 hK hXL cp cl U k9 hk9 hL9 hLI hS hl hnext
  | 4, _ =>
    refine zz_i (v := 4) (by decide) ?_
    refine lv_tableIn (tgt := 306) (off := 273) hx hb dL_law_33 (by decide) (by decide) (by decide) (by decide) ?_
    exact lk_4 l C0 dC dI cI cZ cF cO e0 mi x sl sh fa lw dr dx dy tg tx ty wy wx wz br bo aa ro za zw zx zy zg bq bp dq dp lv k0 hK hXL cp cl U k9 hk9 hL9 hLI hS hl hnext
  | 5, _ =>
    refine zz_i (v := 5) (by decide) ?_
    refine lv_tableIn (tgt := 339) (off := 306) hx hb dL_law_33 (by decide) (by decide) (by decide) (by decide) ?_
    exact lk_5 l C0 dC dI cI cZ cF cO e0 mi x sl sh fa lw dr dx dy tg tx ty wy wx wz br bo aa ro za zw zx zy zg bq bp dq dp lv k0 hK hXL cp cl U k9 hk9 hL9 hLI hS hl hnext
  | 6, _ =>
    refine zz_i (v := 6) (by decide) ?_
    refine lv_tableIn (tgt := 362) (off := 329) hx hb dL_law_33 (by decide) (by decide) (by decide) (by decide) ?_
    exact lk_6 l C0 dC dI cI cZ cF cO e0 mi x sl sh fa lw dr dx dy tg tx ty wy wx wz br bo aa ro za zw zx zy zg bq bp dq dp lv k0 hK hXL cp cl U k9 hk9 hL9 hLI hS hl hnext
  | 7, _ =>
    refine zz_i (v := 7) (by decide) ?_
    refine lv_tableIn (tgt := 425) (off := 392) hx hb dL_law_33 (by decide) (by decide) (by decide) (by decide) ?_
    exact lk_7 l C0 dC dI cI cZ cF cO e0 mi x sl sh fa lw dr dx dy tg tx ty wy wx wz br bo aa ro za zw zx zy zg bq bp dq dp lv k0 hK hXL cp cl U k9 hk9 hL9 hLI hS hl hnext
  | 8, _ =>
    refine zz_i (v := 8) (by decide) ?_
    refine lv_tableIn (tgt := 448) (off := 415) hx hb dL_law_33 (by decide) (by decide) (by decide) (by decide) ?_
    exact lk_8 l C0 dC dI cI cZ cF cO e0 mi x sl sh fa lw dr dx dy tg tx ty wy wx wz br bo aa ro za zw zx zy zg bq bp dq dp lv k0 hK hXL cp cl U k9 hk9 hL9 hLI hS hl hnext
  | 9, _ =>
    refine zz_i (v := 9) (by decide) ?_
    refine lv_tableIn (tgt := 481) (off := 448) hx hb dL_law_33 (by decide) (by decide) (by decide) (by decide) ?_
    exact lk_9 l C0 dC dI cI cZ cF cO e0 mi x sl sh fa lw dr dx dy tg tx ty wy wx wz br bo aa ro za zw zx zy zg bq bp dq dp lv k0 hK hXL cp cl U k9 hk9 hL9 hLI hS hl hnext
  | 10, _ =>
    refine zz_i (v := 10) (by decide) ?_
    refine lv_tableIn (tgt := 524) (off := 491) hx hb dL_law_33 (by decide) (by decide) (by decide) (by decide) ?_
    exact lk_10 l C0 dC dI cI cZ cF cO e0 mi x sl sh fa lw dr dx dy tg tx ty wy wx wz br bo aa ro za zw zx zy zg bq bp dq dp lv k0 hK hXL cp cl U k9 hk9 hL9 hLI hS hl hnext
  | 11, _ =>
    refine zz_i (v := 11) (by decide) ?_
    refine lv_tableIn (tgt := 547) (off := 514) hx hb dL_law_33 (by decide) (by decide) (by decide) (by decide) ?_
    exact lk_11 l C0 dC dI cI cZ cF cO e0 mi x sl sh fa lw dr dx dy tg tx ty wy wx wz br bo aa ro za zw zx zy zg bq bp dq dp lv k0 hK hXL cp cl U k9 hk9 hL9 hLI hS hl hnext
  | 12, _ =>
    refine zz_i (v := 12) (by decide) ?_
    refine lv_tableIn (tgt := 580) (off := 547) hx hb dL_law_33 (by decide) (by decide) (by decide) (by decide) ?_
    exact lk_12 l C0 dC dI cI cZ cF cO e0 mi x sl sh fa lw dr dx dy tg tx ty wy wx wz br bo aa ro za zw zx zy zg bq bp dq dp lv k0 hK hXL cp cl U k9 hk9 hL9 hLI hS hl hnext
  | 13, _ =>
    refine zz_i (v := 13) (by decide) ?_
    refine lv_tableIn (tgt := 593) (off := 560) hx hb dL_law_33 (by decide) (by decide) (by decide) (by decide) ?_
    exact lk_13 l C0 dC dI cI cZ cF cO e0 mi x sl sh fa lw dr dx dy tg tx ty wy wx wz br bo aa ro za zw zx zy zg bq bp dq dp lv k0 hK hXL cp cl U k9 hk9 hL9 hLI hS hl hnext
  | 14, _ =>
    refine zz_i (v := 14) (by decide) ?_
    refine lv_tableIn (tgt := 616) (off := 583) hx hb dL_law_33 (by decide) (by decide) (by decide) (by decide) ?_
    exact lk_14 l C0 dC dI cI cZ cF cO e0 mi x sl sh fa lw dr dx dy tg tx ty wy wx wz br bo aa ro za zw zx zy zg bq bp dq dp lv k0 hK hXL cp cl U k9 hk9 hL9 hLI hS hl hnext
  | 15, _ =>
    refine zz_i (v := 15) (by decide) ?_
    refine lv_tableIn (tgt := 629) (off := 596) hx hb dL_law_33 (by decide) (by decide) (by decide) (by decide) ?_
    exact lk_15 l C0 dC dI cI cZ cF cO e0 mi x sl sh fa lw dr dx dy tg tx ty wy wx wz br bo aa ro za zw zx zy zg bq bp dq dp lv k0 hK hXL cp cl U k9 hk9 hL9 hLI hS hl hnext
  | 16, _ =>
    refine zz_i (v := 16) (by decide) ?_
    refine lv_tableIn (tgt := 642) (off := 609) hx hb dL_law_33 (by decide) (by decide) (by decide) (by decide) ?_
    exact lk_16 l C0 dC dI cI cZ cF cO e0 mi x sl sh fa lw dr dx dy tg tx ty wy wx wz br bo aa ro za zw zx zy zg bq bp dq dp lv k0 hK hXL cp cl U k9 hk9 hL9 hLI hS hl hnext
  | 17, _ =>
    refine zz_i (v := 17) (by decide) ?_
    refine lv_tableIn (tgt := 675) (off := 642) hx hb dL_law_33 (by decide) (by decide) (by decide) (by decide) ?_
    exact lk_17 l C0 dC dI cI cZ cF cO e0 mi x sl sh fa lw dr dx dy tg tx ty wy wx wz br bo aa ro za zw zx zy zg bq bp dq dp lv k0 hK hXL cp cl U k9 hk9 hL9 hLI hS hl hnext
  | 18, _ =>
    refine zz_i (v := 18) (by decide) ?_
    refine lv_tableIn (tgt := 718) (off := 685) hx hb dL_law_33 (by decide) (by decide) (by decide) (by decide) ?_
    exact lk_18 l C0 dC dI cI cZ cF cO e0 mi x sl sh fa lw dr dx dy tg tx ty wy wx wz br bo aa ro za zw zx zy zg bq bp dq dp lv k0 hK hXL cp cl U k9 hk9 hL9 hLI hS hl hnext
  | 19, _ =>
    refine zz_i (v := 19) (by decide) ?_
    refine lv_tableIn (tgt := 771) (off := 738) hx hb dL_law_33 (by decide) (by decide) (by decide) (by decide) ?_
    exact lk_19 l C0 dC dI cI cZ cF cO e0 mi x sl sh fa lw dr dx dy tg tx ty wy wx wz br bo aa ro za zw zx zy zg bq bp dq dp lv k0 hK hXL cp cl U k9 hk9 hL9 hLI hS hl hnext
  | 20, _ =>
    refine zz_i (v := 20) (by decide) ?_
    refine lv_tableIn (tgt := 814) (off := 781) hx hb dL_law_33 (by decide) (by decide) (by decide) (by decide) ?_
    exact lk_20 l C0 dC dI cI cZ cF cO e0 mi x sl sh fa lw dr dx dy tg tx ty wy wx wz br bo aa ro za zw zx zy zg bq bp dq dp lv k0 hK hXL cp cl U k9 hk9 hL9 hLI hS hl hnext
  | 21, _ =>
    refine zz_i (v := 21) (by decide) ?_
    refine lv_tableIn (tgt := 837) (off := 804) hx hb dL_law_33 (by decide) (by decide) (by decide) (by decide) ?_
    exact lk_21 l C0 dC dI cI cZ cF cO e0 mi x sl sh fa lw dr dx dy tg tx ty wy wx wz br bo aa ro za zw zx zy zg bq bp dq dp lv k0 hK hXL cp cl U k9 hk9 hL9 hLI hS hl hnext
  | 22, _ =>
    refine zz_i (v := 22) (by decide) ?_
    refine lv_tableIn (tgt := 880) (off := 847) hx hb dL_law_33 (by decide) (by decide) (by decide) (by decide) ?_
    exact lk_22 l C0 dC dI cI cZ cF cO e0 mi x sl sh fa lw dr dx dy tg tx ty wy wx wz br bo aa ro za zw zx zy zg bq bp dq dp lv k0 hK hXL cp cl U k9 hk9 hL9 hLI hS hl hnext
  | 23, _ =>
    refine zz_i (v := 23) (by decide) ?_
    refine lv_tableIn (tgt := 914) (off := 881) hx hb dL_law_33 (by decide) (by decide) (by decide) (by decide) ?_
    exact lk_23 l C0 dC dI cI cZ cF cO e0 mi x sl sh fa lw dr dx dy tg tx ty wy wx wz br bo aa ro za zw zx zy zg bq bp dq dp lv k0 hK hXL cp cl U k9 hk9 hL9 hLI hS hl hnext
  | 24, _ =>
    refine zz_i (v := 24) (by decide) ?_
    refine lv_tableIn (tgt := 937) (off := 904) hx hb dL_law_33 (by decide) (by decide) (by decide) (by decide) ?_
    exact lk_24 l C0 dC dI cI cZ cF cO e0 mi x sl sh fa lw dr dx dy tg tx ty wy wx wz br bo aa ro za zw zx zy zg bq bp dq dp lv k0 hK hXL cp cl U k9 hk9 hL9 hLI hS hl hnext
  | 25, _ =>
    refine zz_i (v := 25) (by decide) ?_
    refine lv_tableIn (tgt := 980) (off := 947) hx hb dL_law_33 (by decide) (by decide) (by decide) (by decide) ?_
    exact lk_25 l C0 dC dI cI cZ cF cO e0 mi x sl sh fa lw dr dx dy tg tx ty wy wx wz br bo aa ro za zw zx zy zg bq bp dq dp lv k0 hK hXL cp cl U k9 hk9 hL9 hLI hS hl hnext
  | 26, _ =>
    refine zz_i (v := 26) (by decide) ?_
    refine lv_tableIn (tgt := 1013) (off := 980) hx hb dL_law_33 (by decide) (by decide) (by decide) (by decide) ?_
    exact lk_26 l C0 dC dI cI cZ cF cO e0 mi x sl sh fa lw dr dx dy tg tx ty wy wx wz br bo aa ro za zw zx zy zg bq bp dq dp lv k0 hK hXL cp cl U k9 hk9 hL9 hLI hS hl hnext
  | 27, _ =>
    refine zz_i (v := 27) (by decide) ?_
    refine lv_tableIn (tgt := 1046) (off := 1013) hx hb dL_law_33 (by decide) (by decide) (by decide) (by decide) ?_
    exact lk_27 l C0 dC dI cI cZ cF cO e0 mi x sl sh fa lw dr dx dy tg tx ty wy wx wz br bo aa ro za zw zx zy zg bq bp dq dp lv k0 hK hXL cp cl U k9 hk9 hL9 hLI hS hl hnext
  | 28, _ =>
    refine zz_i (v := 28) (by decide) ?_
    refine lv_tableIn (tgt := 1069) (off := 1036) hx hb dL_law_33 (by decide) (by decide) (by decide) (by decide) ?_
    exact lk_28 l C0 dC dI cI cZ cF cO e0 mi x sl sh fa lw dr dx dy tg tx ty wy wx wz br bo aa ro za zw zx zy zg bq bp dq dp lv k0 hK hXL cp cl U k9 hk9 hL9 hLI hS hl hnext
  | 29, _ =>
    refine zz_i (v := 29) (by decide) ?_
    refine lv_tableOut (tgt := 1082) hx hb dL_law_33 (by decide) (by decide) ?_
    refine W.widen (k := 1000 + 1010 * (k9 + 1) + cp + 4 * cl) (n := 45000 + 8192 * cp + 512 * cl + U) (by omega) (by omega) ?_
    exact hnext cp cl U H locs ls (lawI_K dC dI cI cZ cF cO e0 mi x sl sh fa lw dr dx dy tg tx ty wy wx wz br bo aa ro za zw zx zy zg bq bp dq dp lv k0 hLI) hS hl
  | 30, _ =>
    refine zz_i (v := 30) (by decide) ?_
    refine lv_tableOut (tgt := 1082) hx hb dL_law_33 (by decide) (by decide) ?_
    refine W.widen (k := 1000 + 1010 * (k9 + 1) + cp + 4 * cl) (n := 45000 + 8192 * cp + 512 * cl + U) (by omega) (by omega) ?_
    exact hnext cp cl U H locs ls (lawI_K dC dI cI cZ cF cO e0 mi x sl sh fa lw dr dx dy tg tx ty wy wx wz br bo aa ro za zw zx zy zg bq bp dq dp lv k0 hLI) hS hl
  | 31, _ =>
    refine zz_i (v := 31) (by decide) ?_
    refine lv_tableOut (tgt := 1082) hx hb dL_law_33 (by decide) (by decide) ?_
    refine W.widen (k := 1000 + 1010 * (k9 + 1) + cp + 4 * cl) (n := 45000 + 8192 * cp + 512 * cl + U) (by omega) (by omega) ?_
    exact hnext cp cl U H locs ls (lawI_K dC dI cI cZ cF cO e0 mi x sl sh fa lw dr dx dy tg tx ty wy wx wz br bo aa ro za zw zx zy zg bq bp dq dp lv k0 hLI) hS hl
  | j + 32, hj => exact absurd hj (by omega)
set_option maxHeartbeats 4000000 in
set_option maxRecDepth 100000 in
theorem law_loop {p : Program} {e : Env} {s : State} {m : MethodId} {below : List Frame} {meth : Method} {c : Code} (l : Launch) {b L9 : Nat} {xs : Nat → Int32} (C0 : lw_At p s m meth c b L9 xs) (dC : Nat → ClassId) (dI : Nat → Nat → Nat) (cI cZ cF cO : ClassId) (e0 mi : Nat) (x sl sh fa lw dr dx dy tg tx ty wy wx wz br bo aa ro za zw zx zy zg bq bp dq dp lv k0 : Nat) (hK : va_K (dC, dI) classes (zTyO cI cZ cF cO) s) (hXL : zXL e0 mi (fun q : Nat => s.heap.size ≤ q) s) (hL9 : L9 ≤ 3072) : ∀ (n k9 cp cl U : Nat) (H : Heap) (locs : List Loc) (ls : Array Slot), L9 - 6 * k9 ≤ n → 6 * k9 ≤ L9 → lawI s dC dI cI cZ cF cO e0 mi x sl sh fa lw dr dx dy tg tx ty wy wx wz br bo aa ro za zw zx zy zg bq bp dq dp lv k0 k9 cp cl U H → va_S (fun q : Nat => s.heap.size ≤ q) s.heap H locs → lv_has ls 4 [(3, .int (nI (6 * k9))), (2, .ref k0), (1, .ref x), (0, .ref b)] → W p l e room_1 s m #[Value.ref b] below meth c H locs (1000 + 1010 * k9 + cp + 4 * cl) (45000 + 8192 * cp + 512 * cl + U) (lw_Z below #[Value.ref b] s) (F0 m 18 ls []) := by
  obtain ⟨hx, hb, hr, hml, hown, hts1, hX, hbl, hlocks, hgv⟩ := id C0
  have hts : ∀ w9 ∈ ws0, w9.before #[Value.ref b] s = true := fun w9 h => hts1 w9 (List.mem_filter.mp h).1
  have hA : ∀ q : Nat, s.heap.size ≤ q → (fun q : Nat => s.heap.size ≤ q) q := fun _ h => h
  have hbA : ¬ (fun q : Nat => s.heap.size ≤ q) b := Nat.not_le.mpr hbl
  intro n
  induction n with
  | zero =>
    intro k9 cp cl U H locs ls hn hk hLI hS hl
    refine lv_iload_n hx hb dL_law_18 rfl (lv_at hl 0 rfl) ?_
    refine lv_aload_n hx hb dL_law_19 rfl (lv_at hl 3 rfl) ?_
    refine va_slen hx hb hX hbl hbA hS dL_law_20 ?_
    refine lv_bipush (v := 6) hx hb dL_law_21 (by decide) ?_
    refine lv_isub hx hb dL_law_23 ?_
    have e7 : (Int32.ofNat L9 - 6).toInt = ((L9 : Nat) : Int) - 6 := lw_sub6 (by omega)
    refine lv_icmp_gt (tgt := 1088) hx hb dL_law_24 (by decide) (fun c9 => ?_) (fun c9 => ?_)
    · refine va_forget (fun q hq => hS.2.2 q hq) ?_
      refine lv_iconst (v := 1) hx hb dL_law_1088 (by decide) ?_
      refine W.widen (k := 600000) (n := 7302250) (law_room1 hL9 hk hLI) (law_room2 hL9 hk hLI) ?_
      exact lw_ret hx hb hr hlocks dL_law_1089
    · exact absurd (show Int32.ofNat L9 - 6 < nI (6 * k9) from Int32.lt_iff_toInt_lt.mpr (by rw [e7, nI_toInt (by omega)]; omega)) c9
  | succ n ih =>
    intro k9 cp cl U H locs ls hn hk hLI hS hl
    refine lv_iload_n hx hb dL_law_18 rfl (lv_at hl 0 rfl) ?_
    refine lv_aload_n hx hb dL_law_19 rfl (lv_at hl 3 rfl) ?_
    refine va_slen hx hb hX hbl hbA hS dL_law_20 ?_
    refine lv_bipush (v := 6) hx hb dL_law_21 (by decide) ?_
    refine lv_isub hx hb dL_law_23 ?_
    have e7 : (Int32.ofNat L9 - 6).toInt = ((L9 : Nat) : Int) - 6 := lw_sub6 (by omega)
    refine lv_icmp_gt (tgt := 1088) hx hb dL_law_24 (by decide) (fun c9 => ?_) (fun c9 => ?_)
    · refine va_forget (fun q hq => hS.2.2 q hq) ?_
      refine lv_iconst (v := 1) hx hb dL_law_1088 (by decide) ?_
      refine W.widen (k := 600000) (n := 7302250) (law_room1 hL9 hk hLI) (law_room2 hL9 hk hLI) ?_
      exact lw_ret hx hb hr hlocks dL_law_1089
    · have hk6 : 6 * k9 + 6 ≤ L9 := (by rcases Nat.lt_or_ge L9 (6 * k9 + 6) with g | g; exact absurd (show Int32.ofNat L9 - 6 < nI (6 * k9) from Int32.lt_iff_toInt_lt.mpr (by rw [e7, nI_toInt (by omega)]; omega)) c9; exact g)
      refine law_turn l C0 dC dI cI cZ cF cO e0 mi x sl sh fa lw dr dx dy tg tx ty wy wx wz br bo aa ro za zw zx zy zg bq bp dq dp lv k0 hK hXL cp cl U k9 hk6 hL9 hLI hS hl (fun cp1 cl1 U1 H1 locs1 ls1 hLI1 hS1 hl1 => ?_)
      refine lv_iinc (v := nI (6 * (k9 + 1))) (lv' := [(3, .int (nI (6 * (k9 + 1)))), (2, .ref k0), (1, .ref x), (0, .ref b)]) hx hb dL_law_1082 hl1 (k := 0) rfl (nI_add (6 * k9) 6) (by decide) rfl (fun ls2 hl2 => ?_)
      refine lv_goto (tgt := 18) hx hb dL_law_1085 (by decide) ?_
      exact ih (k9 + 1) cp1 cl1 U1 H1 locs1 ls2 (by omega) (by omega) hLI1 hS1 hl2
end
section
set_option maxHeartbeats 4000000 in
set_option maxRecDepth 100000 in
/-- THE LAW, from its entry -/
theorem whole_start {p : Program} {e : Env} {s : State} {m : MethodId} {below : List Frame} {meth : Method} {c : Code} (l : Launch) {b L9 : Nat} {xs : Nat → Int32} (hL : L9 ≤ 3072) (C0 : lw_At p s m meth c b L9 xs) : W p l e room_1 s m #[Value.ref b] below meth c s.heap [] 0 0 (lw_Z below #[Value.ref b] s) (entryFrame m ([Value.ref b] : List Value).toArray 4) := by
  obtain ⟨hx, hb, hr, hml, hown, hts1, hX, hbl, hlocks, hgv⟩ := id C0
  have hts : ∀ w9 ∈ ws0, w9.before #[Value.ref b] s = true := fun w9 h => hts1 w9 (List.mem_filter.mp h).1
  have hA : ∀ q : Nat, s.heap.size ≤ q → (fun q : Nat => s.heap.size ≤ q) q := fun _ h => h
  have hbA : ¬ (fun q : Nat => s.heap.size ≤ q) b := Nat.not_le.mpr hbl
  obtain ⟨c0, iS0, hKn0⟩ := u_known (C := RX0) (T := TX0) (N := 4) (n := 4) hts inX0 (hts _ mw_197)
  obtain ⟨c1, iS1, hKn1⟩ := u_known (C := RX2) (T := TX2) (N := 8) (n := 8) hts inX2 (hts _ mw_365)
  obtain ⟨c2, iS2, hKn2⟩ := u_known (C := RX3) (T := TX3) (N := 2) (n := 2) hts inX3 (hts _ mw_268)
  obtain ⟨c3, iS3, hKn3⟩ := u_known (C := RX4) (T := TX4) (N := 6) (n := 6) hts inX4 (hts _ mw_147)
  obtain ⟨c4, iS4, hKn4⟩ := u_known (C := RX5) (T := TX5) (N := 6) (n := 6) hts inX5 (hts _ mw_373)
  obtain ⟨c5, iS5, hKn5⟩ := u_known (C := RX6) (T := TX6) (N := 6) (n := 6) hts inX6 (hts _ mw_240)
  obtain ⟨c6, iS6, hKn6⟩ := u_known (C := RX7) (T := TX7) (N := 4) (n := 4) hts inX7 (hts _ mw_153)
  obtain ⟨c7, iS7, hKn7⟩ := u_known (C := RX8) (T := TX8) (N := 2) (n := 2) hts inX8 (hts _ mw_129)
  obtain ⟨c8, iS8, hKn8⟩ := u_known (C := RX10) (T := TX10) (N := 13) (n := 13) hts inX10 (hts _ mw_121)
  obtain ⟨c9, iS9, hKn9⟩ := u_known (C := RX11) (T := TX11) (N := 55) (n := 55) hts inX11 (hts _ mw_1154)
  obtain ⟨c10, iS10, hKn10⟩ := u_known (C := RJx4a65c) (T := TJx4a65c) (N := 3) (n := 3) hts inJx4a65c (hts _ mw_283)
  obtain ⟨c11, iS11, hKn11⟩ := u_known (C := RX9) (T := TX9) (N := 5) (n := 5) hts inX9 (hts _ mw_758)
  obtain ⟨c12, iS12, hKn12⟩ := u_known (C := RX1) (T := TX1) (N := 4) (n := 4) hts inX1 (hts _ mw_785)
  obtain ⟨dC, dI, hKc⟩ : ∃ (dC : Nat → ClassId) (dI : Nat → Nat → Nat), ∀ (k : Nat) (q : vw_C), classes[k]? = some q → u_Kn s q.1 q.2.1 q.2.2 (dC k) (dI k) := by
    refine ⟨fun k => match k with | 0 => c0 | 1 => c1 | 2 => c2 | 3 => c3 | 4 => c4 | 5 => c5 | 6 => c6 | 7 => c7 | 8 => c8 | 9 => c9 | 10 => c10 | 11 => c11 | _ => c12, fun k => match k with | 0 => iS0 | 1 => iS1 | 2 => iS2 | 3 => iS3 | 4 => iS4 | 5 => iS5 | 6 => iS6 | 7 => iS7 | 8 => iS8 | 9 => iS9 | 10 => iS10 | 11 => iS11 | _ => iS12, ?_⟩
    intro k q hq
    match k, hq with
    | 0, hq => cases hq; exact hKn0
    | 1, hq => cases hq; exact hKn1
    | 2, hq => cases hq; exact hKn2
    | 3, hq => cases hq; exact hKn3
    | 4, hq => cases hq; exact hKn4
    | 5, hq => cases hq; exact hKn5
    | 6, hq => cases hq; exact hKn6
    | 7, hq => cases hq; exact hKn7
    | 8, hq => cases hq; exact hKn8
    | 9, hq => cases hq; exact hKn9
    | 10, hq => cases hq; exact hKn10
    | 11, hq => cases hq; exact hKn11
    | 12, hq => cases hq; exact hKn12
    | k + 13, hq => simp [classes] at hq
  obtain ⟨cI, kI, compI, fI1, fI2, fI3⟩ := Cond.arrayClass_spec (hts _ mw_195)
  obtain ⟨cZ, kZ, compZ, fZ1, fZ2, fZ3⟩ := Cond.arrayClass_spec (hts _ mw_308)
  have hAO : va_AO "ScaleShop$Feature" s := va_AO.of (hts1 (Jvm.Cond.arrayOver (Jvm.ClassFile.FieldType.object "ScaleShop$Feature")) (List.mem_of_getElem? (i := 135) (by decide +kernel)))
  obtain ⟨compF, cF, kF, fF1, -, fF3, fF4, fF5⟩ := Cond.arrayOver_spec hAO
  have hAP : va_AO "java/lang/Object" s := va_AO.of (hts1 (Jvm.Cond.arrayOver (Jvm.ClassFile.FieldType.object "java/lang/Object")) (List.mem_of_getElem? (i := 855) (by decide +kernel)))
  obtain ⟨compO, cO, kO, fO1, -, fO3, fO4, fO5⟩ := Cond.arrayOver_spec hAP
  have hK : va_K (dC, dI) classes (zTyO cI cZ cF cO) s := by
    refine ⟨hKc, fun k q h => ?_⟩
    match k, h with
    | 0, h => cases h; exact ⟨fun n z => ⟨fun k h => (by cases h), kI, fI2, compI, fI3⟩, fI1⟩
    | 1, h => cases h; exact ⟨fun n z => ⟨fun k h => (by cases h), kZ, fZ2, compZ, fZ3⟩, fZ1⟩
    | 2, h => cases h; exact ⟨fun n z => ⟨fun k h => (by cases h), kF, fF3, compF, fF4⟩, kF, compF, fF3, fF4, fF1, fF5⟩
    | 3, h => cases h; exact ⟨fun n z => ⟨fun k h => (by cases h), kO, fO3, compO, fO4⟩, kO, compO, fO3, fO4, fO1, fO5⟩
    | k + 4, h => simp [zTyO] at h
  have hs9 := flat_of_before _ hgv
  have hlen : (Cond.eq (.length (.static "java/util/ArrayList" "DEFAULTCAPACITY_EMPTY_ELEMENTDATA" "[Ljava/lang/Object;")) (.int 0)).before #[Value.ref b] s = true := hs9 _ (by decide +kernel)
  obtain ⟨e0, cell0, he0, hc0, hc1⟩ := Term.length_spec (va_eqt hlen)
  have hao : (Cond.arrayOf (.static "java/util/ArrayList" "DEFAULTCAPACITY_EMPTY_ELEMENTDATA" "[Ljava/lang/Object;") (.object "java/lang/Object")).before #[Value.ref b] s = true := hs9 _ (by decide +kernel)
  have hZ : va_Z "java/util/ArrayList" "DEFAULTCAPACITY_EMPTY_ELEMENTDATA" "[Ljava/lang/Object;" (.ref e0) (fun q : Nat => s.heap.size ≤ q) s s.heap := va_Zof (hts1 (Jvm.Cond.laysStatic "java/util/ArrayList" "DEFAULTCAPACITY_EMPTY_ELEMENTDATA" "[Ljava/lang/Object;") (List.mem_of_getElem? (i := 295) (by decide +kernel))) (hts _ mw_109) he0 (fun a h => Nat.not_le.mpr h)
  have hmr : (Cond.isRef (.mirror "[Ljava/lang/Object;")).before #[Value.ref b] s = true := hs9 _ (by decide +kernel)
  obtain ⟨mi, hMi⟩ := va_Mi.of hmr
  have hDc : va_Dc s := va_Dc.of (hts1 (Jvm.Cond.declares ({ cls := "java/lang/Object", name := "getClass", desc := "()Ljava/lang/Class;" } : Jvm.MethodName)) (List.mem_of_getElem? (i := 1733) (by decide +kernel)))
  have hE0 : zE0 e0 (fun q : Nat => s.heap.size ≤ q) s s.heap := lw_e0 hlen hao he0 hc0
  have hXL : zXL e0 mi (fun q : Nat => s.heap.size ≤ q) s := ⟨⟨va_Nw.of rfl (hts1 (Jvm.Cond.methodLinkNest "ScaleShop$Row" (88 : Nat) ({ cls := "ScaleShop", name := "isPlace", desc := "(II)Z" } : Jvm.MethodName) "ScaleShop") (List.mem_of_getElem? (i := 638) (by decide +kernel))), va_Nw.of rfl (hts1 (Jvm.Cond.castable "ScaleShop$Step" "java/lang/Object") (List.mem_of_getElem? (i := 1729) (by decide +kernel))), hAO, hAP⟩, hZ, hDc, hMi, hE0⟩
  have hXN := hXL.1
  have hK3 := hK.sub [0, 1, 2] rfl
  have hS : va_S (fun q : Nat => s.heap.size ≤ q) s.heap s.heap [] := va_S.rf
  have hP : va_P (dC, dI) classes [] s.heap := fun k q h => by simp at h
  have hD : va_D (fun q : Nat => s.heap.size ≤ q) [] := ⟨fun i j p q h => by simp at h, fun k q h => by simp at h⟩
  have hl := lv_entry ([.ref b]) (n := 4) (Nat.le_of_ble_eq_true rfl)
  rw [lg_entry_eq]
  generalize (lg_sl ([.ref b]) ++ List.replicate (4 - (lg_sl ([.ref b])).length) Slot.unset).toArray = ls at hl ⊢
  have hl : lv_has ls 4 [(0, .ref b)] := hl
  refine va_new (ci := 8) (fs := [.null, .null, .null, .null, .null, .null, .null, .null, .null, .int 0, .int 0, .int 0, .int 0]) (C := RX10) (T := TX10) (N := 13) hx hb hts inX10 tyX10 tyX10_ok hown (hts _ mw_120) (hts _ mw_121) (hts _ mw_99) hK hP hD hS hA rfl dfX10 (show (0 + 1) ≤ 600000 by omega) (show (0 + 13) ≤ 7302250 by omega) dL_law_0 (fun x H hP hD hS => ?_)
  obtain ⟨hP, hD⟩ := zre (W2 := [(oc8 x .null .null .null .null .null .null .null .null .null 0 0 0 0)]) hP hD rfl
  refine lv_dup hx hb dL_law_3 rfl ?_
  obtain ⟨hPc, hDc, hFc⟩ := zc_sub (wc := [(oc8 x .null .null .null .null .null .null .null .null .null 0 0 0 0)]) hP hD hS hA [0] (by decide) rfl
  refine zcall (st1 := [.ref x]) (va_runI (As := []) (rest := [.ref x]) ⟨hx, hb, hml, hown, hts⟩ (k_Shop_init l dC dI cI cZ cF H.size cO e0 mi x ) (cwI 0 hts (zz_gC mc_yX10_init) rfl rfl rfl (hts _ mw_99) (hts _ mw_122) (hts _ mw_123) rfl (by decide +kernel) ⟨Nat.le_of_ble_eq_true rfl, Nat.le_of_ble_eq_true rfl⟩) (zPSL hPc hDc hK hXL hS hFc) rfl rfl hl.1 rfl (lv_room (Nat.le_of_ble_eq_true rfl)) dL_law_4 ⟨show ((0 + 1) + 30) ≤ 600000 by omega, show ((0 + 13) + 2300) ≤ 7302250 by omega⟩) hS hFc hFc rfl (fun t H locs ht hB hk1 hS => ?_)
  refine ex27 hB (fun sl sh fa lw dr dx dy tg tx ty wy wx wz br bo aa ro za zw zx zy zg bq bp dq dp lv hB0 => ?_)
  clear hB
  obtain ⟨hP1, hD1⟩ := hB0
  rw [ht] at hP1
  obtain ⟨hP, hD⟩ := zk (W2 := [(oc8 x (.ref sh) (.ref lw) (.ref ro) (.ref bq) (.ref bp) (.ref dq) (.ref dp) (.ref lv) (.ref sl) (nI 0) (nI 0) 0 0), (oc10 sl 0 (.ref e0) (nI 0)), (oc7 sh (.ref fa) (nI 0)), (oq fa cF 200 (fun _ => none)), (oc3 lw (.ref dr) (.ref tg) (.ref wy) (.ref br) (.ref bo) (.ref aa)), (oc6 dr (.ref dx) (.ref dy) (nI 0) 0), (oa dx cI 40 (fun _ => 0)), (oa dy cI 40 (fun _ => 0)), (oc6 tg (.ref tx) (.ref ty) (nI 0) 1), (oa tx cI 3 (fun _ => 0)), (oa ty cI 3 (fun _ => 0)), (oc6 wy (.ref wx) (.ref wz) (nI 0) 0), (oa wx cI 2 (fun _ => 0)), (oa wz cI 2 (fun _ => 0)), (oc0 br 0 0 0 0), (oc0 bo 0 0 0 0), (oa aa cI 40 (fun _ => 0)), (oc5 ro (.ref za) (.ref zw) (.ref zx) (.ref zy) (.ref zg) 0), (oq za cF 200 (fun _ => none)), (oa zw cI 200 (fun _ => 0)), (oa zx cI 400 (fun _ => 0)), (oa zy cI 400 (fun _ => 0)), (oa zg cI 400 (fun _ => 0)), (oc0 bq 0 0 0 0), (oc0 bp 0 0 0 0), (oc2 dq 0 0), (oc2 dp 0 0), (oa lv cZ 200 (fun _ => 0))]) hP hD [0] [] [] [0, 1, 2, 3, 4, 5, 6, 7, 8, 9, 10, 11, 12, 13, 14, 15, 16, 17, 18, 19, 20, 21, 22, 23, 24, 25, 26, 27] [0, 1, 2, 3, 4, 5, 6, 7, 8, 9, 10, 11, 12, 13, 14, 15, 16, 17, 18, 19, 20, 21, 22, 23, 24, 25, 26, 27] 28 rfl rfl rfl rfl rfl rfl rfl rfl rfl hk1 hFc hP1 hD1
  clear hk1 hPc hDc hFc hP1 hD1 ht
  refine lv_astore_n (lv' := [(1, .ref x), (0, .ref b)]) hx hb dL_law_7 rfl hl (by decide) rfl (fun ls hl => ?_)
  refine va_new (ci := 9) (fs := [.int 0, .null, .null, .null, .null, .null, .null, .null, .null, .null, .null, .null, .null, .null, .int 0, .int 0, .null, .null, .null, .int 0, .int 0, .int 0, .null, .null, .null, .null, .int 0, .null, .null, .null, .null, .int 0, .null, .null, .null, .int 0, .int 0, .null, .null, .null, .null, .int 0, .int 0, .null, .int 0, .int 0, .int 0, .int 0, .long 0, .long 0, .null, .null, .null, .null, .int 0]) (C := RX11) (T := TX11) (N := 55) hx hb hts inX11 tyX11 tyX11_ok hown (hts _ mw_1153) (hts _ mw_1154) (hts _ mw_110) hK hP hD hS hA rfl dfX11 (show (((0 + 1) + 30) + 1) ≤ 600000 by omega) (show (((0 + 13) + 2300) + 55) ≤ 7302250 by omega) dL_law_8 (fun k0 H hP hD hS => ?_)
  obtain ⟨hP, hD⟩ := zre (W2 := [_, _, _, _, _, _, _, _, _, _, _, _, _, _, _, _, _, _, _, _, _, _, _, _, _, _, _, _, (oc9 k0 0 .null .null .null .null .null .null .null .null .null .null .null .null .null 0 0 .null .null .null 0 0 0 .null .null .null .null 0 .null .null .null .null 0 .null .null .null 0 0 .null .null .null .null 0 0 .null 0 0 0 0 0 0 .null .null .null .null 0)]) hP hD rfl
  refine lv_dup hx hb dL_law_11 rfl ?_
  obtain ⟨hPc, hDc, hFc⟩ := zc_sub (wc := [(oc9 k0 0 .null .null .null .null .null .null .null .null .null .null .null .null .null 0 0 .null .null .null 0 0 0 .null .null .null .null 0 .null .null .null .null 0 .null .null .null 0 0 .null .null .null .null 0 0 .null 0 0 0 0 0 0 .null .null .null .null 0)]) hP hD hS hA [28] (by decide) rfl
  refine zcall (st1 := [.ref k0]) (va_runI (As := []) (rest := [.ref k0]) ⟨hx, hb, hml, hown, hts⟩ (k_M_init l dC dI cI cZ cF H.size k0 ) (cwI 0 hts (zz_gC mc_yX11_init) rfl rfl rfl (hts _ mw_110) (hts _ mw_1155) (hts _ mw_1156) rfl (by decide +kernel) ⟨Nat.le_of_ble_eq_true rfl, Nat.le_of_ble_eq_true rfl⟩) (zPS2 hPc hDc hK3 hXN) rfl rfl hl.1 rfl (lv_room (Nat.le_of_ble_eq_true rfl)) dL_law_12 ⟨show ((((0 + 1) + 30) + 1) + 36) ≤ 600000 by omega, show ((((0 + 13) + 2300) + 55) + 34772) ≤ 7302250 by omega⟩) hS hFc hFc rfl (fun t H locs ht hB hk1 hS => ?_)
  refine ex36 hB (fun m1 m2 m3 m4 m5 m6 m7 m8 m9 m10 m11 m12 m13 m16 m17 m18 m22 m23 m24 m25 m27 m28 m29 m30 m32 m33 m34 m37 m38 m39 m40 m43 m50 m51 m52 m53 hB0 => ?_)
  clear hB
  obtain ⟨hP1, hD1⟩ := hB0
  rw [ht] at hP1
  obtain ⟨hP, hD⟩ := zk (W2 := (_ :: _ :: _ :: _ :: _ :: _ :: _ :: _ :: _ :: _ :: _ :: _ :: _ :: _ :: _ :: _ :: _ :: _ :: _ :: _ :: _ :: _ :: _ :: _ :: _ :: _ :: _ :: _ :: (oc9 k0 0 (.ref m1) (.ref m2) (.ref m3) (.ref m4) (.ref m5) (.ref m6) (.ref m7) (.ref m8) (.ref m9) (.ref m10) (.ref m11) (.ref m12) (.ref m13) 0 0 (.ref m16) (.ref m17) (.ref m18) 0 0 0 (.ref m22) (.ref m23) (.ref m24) (.ref m25) 0 (.ref m27) (.ref m28) (.ref m29) (.ref m30) 0 (.ref m32) (.ref m33) (.ref m34) 0 0 (.ref m37) (.ref m38) (.ref m39) (.ref m40) 0 0 (.ref m43) 0 0 0 0 0 0 (.ref m50) (.ref m51) (.ref m52) (.ref m53) 0) :: (oa m1 cI 201 (fun _ => 0)) :: (oa m2 cI 201 (fun _ => 0)) :: (oa m3 cI 201 (fun _ => 0)) :: (oa m4 cI 201 (fun _ => 0)) :: (oa m5 cI 201 (fun _ => 0)) :: (oa m6 cZ 201 (fun _ => 0)) :: (oa m7 cI 201 (fun _ => 0)) :: (oa m8 cI 201 (fun _ => 0)) :: (oa m9 cI 201 (fun _ => 0)) :: (oa m10 cI 201 (fun _ => 0)) :: (oa m11 cI 201 (fun _ => 0)) :: (oa m12 cI 8040 (fun _ => 0)) :: (oa m13 cI 8040 (fun _ => 0)) :: (oa m16 cI 514 (fun _ => 0)) :: (oa m17 cI 514 (fun _ => 0)) :: (oa m18 cI 514 (fun _ => 0)) :: (oa m22 cI 64 (fun _ => 0)) :: (oa m23 cI 64 (fun _ => 0)) :: (oa m24 cI 64 (fun _ => 0)) :: (oa m25 cI 64 (fun _ => 0)) :: (oa m27 cI 516 (fun _ => 0)) :: (oa m28 cI 4096 (fun _ => 0)) :: (oa m29 cI 42 (fun _ => 0)) :: (oa m30 cI 42 (fun _ => 0)) :: (oa m32 cI 8 (fun _ => 0)) :: (oa m33 cI 42 (fun _ => 0)) :: (oa m34 cI 42 (fun _ => 0)) :: (oa m37 cZ 201 (fun _ => 0)) :: (oa m38 cZ 201 (fun _ => 0)) :: (oa m39 cZ 8040 (fun _ => 0)) :: (oa m40 cI 6 (fun _ => 0)) :: (oa m43 cZ 40 (fun _ => 0)) :: (oa m50 cZ 201 (fun _ => 0)) :: (oa m51 cI 402 (fun _ => 0)) :: (oa m52 cI 402 (fun _ => 0)) :: (oa m53 cI 402 (fun _ => 0)) :: [])) hP hD [28] [0, 1, 2, 3, 4, 5, 6, 7, 8, 9, 10, 11, 12, 13, 14, 15, 16, 17, 18, 19, 20, 21, 22, 23, 24, 25, 26, 27] [0, 1, 2, 3, 4, 5, 6, 7, 8, 9, 10, 11, 12, 13, 14, 15, 16, 17, 18, 19, 20, 21, 22, 23, 24, 25, 26, 27] (28 :: 29 :: 30 :: 31 :: 32 :: 33 :: 34 :: 35 :: 36 :: 37 :: 38 :: 39 :: 40 :: 41 :: 42 :: 43 :: 44 :: 45 :: 46 :: 47 :: 48 :: 49 :: 50 :: 51 :: 52 :: 53 :: 54 :: 55 :: 56 :: 57 :: 58 :: 59 :: 60 :: 61 :: 62 :: 63 :: 64 :: []) (0 :: 1 :: 2 :: 3 :: 4 :: 5 :: 6 :: 7 :: 8 :: 9 :: 10 :: 11 :: 12 :: 13 :: 14 :: 15 :: 16 :: 17 :: 18 :: 19 :: 20 :: 21 :: 22 :: 23 :: 24 :: 25 :: 26 :: 27 :: 28 :: 29 :: 30 :: 31 :: 32 :: 33 :: 34 :: 35 :: 36 :: 37 :: 38 :: 39 :: 40 :: 41 :: 42 :: 43 :: 44 :: 45 :: 46 :: 47 :: 48 :: 49 :: 50 :: 51 :: 52 :: 53 :: 54 :: 55 :: 56 :: 57 :: 58 :: 59 :: 60 :: 61 :: 62 :: 63 :: 64 :: []) 65 rfl rfl rfl rfl rfl rfl rfl rfl rfl hk1 hFc hP1 hD1
  clear hk1 hPc hDc hFc hP1 hD1 ht
  refine lv_astore_n (lv' := [(2, .ref k0), (1, .ref x), (0, .ref b)]) hx hb dL_law_15 rfl hl (by decide) rfl (fun ls hl => ?_)
  refine lv_iconst (v := 0) hx hb dL_law_16 (by decide) ?_
  refine lv_istore_n (lv' := [(3, .int 0), (2, .ref k0), (1, .ref x), (0, .ref b)]) hx hb dL_law_17 rfl hl (by decide) rfl (fun ls hl => ?_)
  have hP8 := hP.sub (ws' := ((oc8 x (.ref sh) (.ref lw) (.ref ro) (.ref bq) (.ref bp) (.ref dq) (.ref dp) (.ref lv) (.ref sl) (nI 0) (nI 0) 0 0) :: (oc10 sl 0 (.ref e0) (nI 0)) :: (oc7 sh (.ref fa) (nI 0)) :: (oq fa cF 200 (fun _ => none)) :: (oc3 lw (.ref dr) (.ref tg) (.ref wy) (.ref br) (.ref bo) (.ref aa)) :: (oc6 dr (.ref dx) (.ref dy) (nI 0) 0) :: (oa dx cI 40 (fun _ => 0)) :: (oa dy cI 40 (fun _ => 0)) :: (oc6 tg (.ref tx) (.ref ty) (nI 0) 1) :: (oa tx cI 3 (fun _ => 0)) :: (oa ty cI 3 (fun _ => 0)) :: (oc6 wy (.ref wx) (.ref wz) (nI 0) 0) :: (oa wx cI 2 (fun _ => 0)) :: (oa wz cI 2 (fun _ => 0)) :: (oc0 br 0 0 0 0) :: (oc0 bo 0 0 0 0) :: (oa aa cI 40 (fun _ => 0)) :: (oc5 ro (.ref za) (.ref zw) (.ref zx) (.ref zy) (.ref zg) 0) :: (oq za cF 200 (fun _ => none)) :: (oa zw cI 200 (fun _ => 0)) :: (oa zx cI 400 (fun _ => 0)) :: (oa zy cI 400 (fun _ => 0)) :: (oa zg cI 400 (fun _ => 0)) :: (oc0 bq 0 0 0 0) :: (oc0 bp 0 0 0 0) :: (oc2 dq 0 0) :: (oc2 dp 0 0) :: (oa lv cZ 200 (fun _ => 0)) :: (oc9 k0 0 (.ref m1) (.ref m2) (.ref m3) (.ref m4) (.ref m5) (.ref m6) (.ref m7) (.ref m8) (.ref m9) (.ref m10) (.ref m11) (.ref m12) (.ref m13) 0 0 (.ref m16) (.ref m17) (.ref m18) 0 0 0 (.ref m22) (.ref m23) (.ref m24) (.ref m25) 0 (.ref m27) (.ref m28) (.ref m29) (.ref m30) 0 (.ref m32) (.ref m33) (.ref m34) 0 0 (.ref m37) (.ref m38) (.ref m39) (.ref m40) 0 0 (.ref m43) 0 0 0 0 0 0 (.ref m50) (.ref m51) (.ref m52) (.ref m53) 0) :: (oa m1 cI 201 (fun _ => 0)) :: (oa m5 cI 201 (fun _ => 0)) :: (oa m7 cI 201 (fun _ => 0)) :: (oa m10 cI 201 (fun _ => 0)) :: (oa m8 cI 201 (fun _ => 0)) :: (oa m9 cI 201 (fun _ => 0)) :: (oa m2 cI 201 (fun _ => 0)) :: (oa m3 cI 201 (fun _ => 0)) :: (oa m4 cI 201 (fun _ => 0)) :: (oa m6 cZ 201 (fun _ => 0)) :: (oa m11 cI 201 (fun _ => 0)) :: (oa m12 cI 8040 (fun _ => 0)) :: (oa m13 cI 8040 (fun _ => 0)) :: (oa m27 cI 516 (fun _ => 0)) :: (oa m28 cI 4096 (fun _ => 0)) :: (oa m16 cI 514 (fun _ => 0)) :: (oa m17 cI 514 (fun _ => 0)) :: (oa m18 cI 514 (fun _ => 0)) :: (oa m22 cI 64 (fun _ => 0)) :: (oa m23 cI 64 (fun _ => 0)) :: (oa m24 cI 64 (fun _ => 0)) :: (oa m25 cI 64 (fun _ => 0)) :: (oa m29 cI 42 (fun _ => 0)) :: (oa m30 cI 42 (fun _ => 0)) :: (oa m32 cI 8 (fun _ => 0)) :: (oa m33 cI 42 (fun _ => 0)) :: (oa m34 cI 42 (fun _ => 0)) :: (oa m37 cZ 201 (fun _ => 0)) :: (oa m38 cZ 201 (fun _ => 0)) :: (oa m39 cZ 8040 (fun _ => 0)) :: (oa m40 cI 6 (fun _ => 0)) :: (oa m43 cZ 40 (fun _ => 0)) :: (oa m50 cZ 201 (fun _ => 0)) :: (oa m51 cI 402 (fun _ => 0)) :: (oa m52 cI 402 (fun _ => 0)) :: (oa m53 cI 402 (fun _ => 0)) :: [])) (0 :: 1 :: 2 :: 3 :: 4 :: 5 :: 6 :: 7 :: 8 :: 9 :: 10 :: 11 :: 12 :: 13 :: 14 :: 15 :: 16 :: 17 :: 18 :: 19 :: 20 :: 21 :: 22 :: 23 :: 24 :: 25 :: 26 :: 27 :: 28 :: 29 :: 33 :: 35 :: 38 :: 36 :: 37 :: 30 :: 31 :: 32 :: 34 :: 39 :: 40 :: 41 :: 49 :: 50 :: 42 :: 43 :: 44 :: 45 :: 46 :: 47 :: 48 :: 51 :: 52 :: 53 :: 54 :: 55 :: 56 :: 57 :: 58 :: 59 :: 60 :: 61 :: 62 :: 63 :: 64 :: []) rfl
  have hD8 := hD.sub (ws' := ((oc8 x (.ref sh) (.ref lw) (.ref ro) (.ref bq) (.ref bp) (.ref dq) (.ref dp) (.ref lv) (.ref sl) (nI 0) (nI 0) 0 0) :: (oc10 sl 0 (.ref e0) (nI 0)) :: (oc7 sh (.ref fa) (nI 0)) :: (oq fa cF 200 (fun _ => none)) :: (oc3 lw (.ref dr) (.ref tg) (.ref wy) (.ref br) (.ref bo) (.ref aa)) :: (oc6 dr (.ref dx) (.ref dy) (nI 0) 0) :: (oa dx cI 40 (fun _ => 0)) :: (oa dy cI 40 (fun _ => 0)) :: (oc6 tg (.ref tx) (.ref ty) (nI 0) 1) :: (oa tx cI 3 (fun _ => 0)) :: (oa ty cI 3 (fun _ => 0)) :: (oc6 wy (.ref wx) (.ref wz) (nI 0) 0) :: (oa wx cI 2 (fun _ => 0)) :: (oa wz cI 2 (fun _ => 0)) :: (oc0 br 0 0 0 0) :: (oc0 bo 0 0 0 0) :: (oa aa cI 40 (fun _ => 0)) :: (oc5 ro (.ref za) (.ref zw) (.ref zx) (.ref zy) (.ref zg) 0) :: (oq za cF 200 (fun _ => none)) :: (oa zw cI 200 (fun _ => 0)) :: (oa zx cI 400 (fun _ => 0)) :: (oa zy cI 400 (fun _ => 0)) :: (oa zg cI 400 (fun _ => 0)) :: (oc0 bq 0 0 0 0) :: (oc0 bp 0 0 0 0) :: (oc2 dq 0 0) :: (oc2 dp 0 0) :: (oa lv cZ 200 (fun _ => 0)) :: (oc9 k0 0 (.ref m1) (.ref m2) (.ref m3) (.ref m4) (.ref m5) (.ref m6) (.ref m7) (.ref m8) (.ref m9) (.ref m10) (.ref m11) (.ref m12) (.ref m13) 0 0 (.ref m16) (.ref m17) (.ref m18) 0 0 0 (.ref m22) (.ref m23) (.ref m24) (.ref m25) 0 (.ref m27) (.ref m28) (.ref m29) (.ref m30) 0 (.ref m32) (.ref m33) (.ref m34) 0 0 (.ref m37) (.ref m38) (.ref m39) (.ref m40) 0 0 (.ref m43) 0 0 0 0 0 0 (.ref m50) (.ref m51) (.ref m52) (.ref m53) 0) :: (oa m1 cI 201 (fun _ => 0)) :: (oa m5 cI 201 (fun _ => 0)) :: (oa m7 cI 201 (fun _ => 0)) :: (oa m10 cI 201 (fun _ => 0)) :: (oa m8 cI 201 (fun _ => 0)) :: (oa m9 cI 201 (fun _ => 0)) :: (oa m2 cI 201 (fun _ => 0)) :: (oa m3 cI 201 (fun _ => 0)) :: (oa m4 cI 201 (fun _ => 0)) :: (oa m6 cZ 201 (fun _ => 0)) :: (oa m11 cI 201 (fun _ => 0)) :: (oa m12 cI 8040 (fun _ => 0)) :: (oa m13 cI 8040 (fun _ => 0)) :: (oa m27 cI 516 (fun _ => 0)) :: (oa m28 cI 4096 (fun _ => 0)) :: (oa m16 cI 514 (fun _ => 0)) :: (oa m17 cI 514 (fun _ => 0)) :: (oa m18 cI 514 (fun _ => 0)) :: (oa m22 cI 64 (fun _ => 0)) :: (oa m23 cI 64 (fun _ => 0)) :: (oa m24 cI 64 (fun _ => 0)) :: (oa m25 cI 64 (fun _ => 0)) :: (oa m29 cI 42 (fun _ => 0)) :: (oa m30 cI 42 (fun _ => 0)) :: (oa m32 cI 8 (fun _ => 0)) :: (oa m33 cI 42 (fun _ => 0)) :: (oa m34 cI 42 (fun _ => 0)) :: (oa m37 cZ 201 (fun _ => 0)) :: (oa m38 cZ 201 (fun _ => 0)) :: (oa m39 cZ 8040 (fun _ => 0)) :: (oa m40 cI 6 (fun _ => 0)) :: (oa m43 cZ 40 (fun _ => 0)) :: (oa m50 cZ 201 (fun _ => 0)) :: (oa m51 cI 402 (fun _ => 0)) :: (oa m52 cI 402 (fun _ => 0)) :: (oa m53 cI 402 (fun _ => 0)) :: [])) (0 :: 1 :: 2 :: 3 :: 4 :: 5 :: 6 :: 7 :: 8 :: 9 :: 10 :: 11 :: 12 :: 13 :: 14 :: 15 :: 16 :: 17 :: 18 :: 19 :: 20 :: 21 :: 22 :: 23 :: 24 :: 25 :: 26 :: 27 :: 28 :: 29 :: 33 :: 35 :: 38 :: 36 :: 37 :: 30 :: 31 :: 32 :: 34 :: 39 :: 40 :: 41 :: 49 :: 50 :: 42 :: 43 :: 44 :: 45 :: 46 :: 47 :: 48 :: 51 :: 52 :: 53 :: 54 :: 55 :: 56 :: 57 :: 58 :: 59 :: 60 :: 61 :: 62 :: 63 :: 64 :: []) (by decide) rfl
  have ea9 : ∀ ws : va_W, ws ++ va_pl [] (fun _ => .inr (0, [])) = ws := fun ws => List.append_nil ws
  have hP9 := hP8
  have hD9 := hD8
  rw [← ea9 (((oc8 x (.ref sh) (.ref lw) (.ref ro) (.ref bq) (.ref bp) (.ref dq) (.ref dp) (.ref lv) (.ref sl) (nI 0) (nI 0) 0 0) :: (oc10 sl 0 (.ref e0) (nI 0)) :: (oc7 sh (.ref fa) (nI 0)) :: (oq fa cF 200 (fun _ => none)) :: (oc3 lw (.ref dr) (.ref tg) (.ref wy) (.ref br) (.ref bo) (.ref aa)) :: (oc6 dr (.ref dx) (.ref dy) (nI 0) 0) :: (oa dx cI 40 (fun _ => 0)) :: (oa dy cI 40 (fun _ => 0)) :: (oc6 tg (.ref tx) (.ref ty) (nI 0) 1) :: (oa tx cI 3 (fun _ => 0)) :: (oa ty cI 3 (fun _ => 0)) :: (oc6 wy (.ref wx) (.ref wz) (nI 0) 0) :: (oa wx cI 2 (fun _ => 0)) :: (oa wz cI 2 (fun _ => 0)) :: (oc0 br 0 0 0 0) :: (oc0 bo 0 0 0 0) :: (oa aa cI 40 (fun _ => 0)) :: (oc5 ro (.ref za) (.ref zw) (.ref zx) (.ref zy) (.ref zg) 0) :: (oq za cF 200 (fun _ => none)) :: (oa zw cI 200 (fun _ => 0)) :: (oa zx cI 400 (fun _ => 0)) :: (oa zy cI 400 (fun _ => 0)) :: (oa zg cI 400 (fun _ => 0)) :: (oc0 bq 0 0 0 0) :: (oc0 bp 0 0 0 0) :: (oc2 dq 0 0) :: (oc2 dp 0 0) :: (oa lv cZ 200 (fun _ => 0)) :: (oc9 k0 0 (.ref m1) (.ref m2) (.ref m3) (.ref m4) (.ref m5) (.ref m6) (.ref m7) (.ref m8) (.ref m9) (.ref m10) (.ref m11) (.ref m12) (.ref m13) 0 0 (.ref m16) (.ref m17) (.ref m18) 0 0 0 (.ref m22) (.ref m23) (.ref m24) (.ref m25) 0 (.ref m27) (.ref m28) (.ref m29) (.ref m30) 0 (.ref m32) (.ref m33) (.ref m34) 0 0 (.ref m37) (.ref m38) (.ref m39) (.ref m40) 0 0 (.ref m43) 0 0 0 0 0 0 (.ref m50) (.ref m51) (.ref m52) (.ref m53) 0) :: (oa m1 cI 201 (fun _ => 0)) :: (oa m5 cI 201 (fun _ => 0)) :: (oa m7 cI 201 (fun _ => 0)) :: (oa m10 cI 201 (fun _ => 0)) :: (oa m8 cI 201 (fun _ => 0)) :: (oa m9 cI 201 (fun _ => 0)) :: (oa m2 cI 201 (fun _ => 0)) :: (oa m3 cI 201 (fun _ => 0)) :: (oa m4 cI 201 (fun _ => 0)) :: (oa m6 cZ 201 (fun _ => 0)) :: (oa m11 cI 201 (fun _ => 0)) :: (oa m12 cI 8040 (fun _ => 0)) :: (oa m13 cI 8040 (fun _ => 0)) :: (oa m27 cI 516 (fun _ => 0)) :: (oa m28 cI 4096 (fun _ => 0)) :: (oa m16 cI 514 (fun _ => 0)) :: (oa m17 cI 514 (fun _ => 0)) :: (oa m18 cI 514 (fun _ => 0)) :: (oa m22 cI 64 (fun _ => 0)) :: (oa m23 cI 64 (fun _ => 0)) :: (oa m24 cI 64 (fun _ => 0)) :: (oa m25 cI 64 (fun _ => 0)) :: (oa m29 cI 42 (fun _ => 0)) :: (oa m30 cI 42 (fun _ => 0)) :: (oa m32 cI 8 (fun _ => 0)) :: (oa m33 cI 42 (fun _ => 0)) :: (oa m34 cI 42 (fun _ => 0)) :: (oa m37 cZ 201 (fun _ => 0)) :: (oa m38 cZ 201 (fun _ => 0)) :: (oa m39 cZ 8040 (fun _ => 0)) :: (oa m40 cI 6 (fun _ => 0)) :: (oa m43 cZ 40 (fun _ => 0)) :: (oa m50 cZ 201 (fun _ => 0)) :: (oa m51 cI 402 (fun _ => 0)) :: (oa m52 cI 402 (fun _ => 0)) :: (oa m53 cI 402 (fun _ => 0)) :: []))] at hP9 hD9
  refine W.widen (k := 1000 + 1010 * 0 + 1 + 4 * 1) (n := 45000 + 8192 * 1 + 512 * 1 + 0) (by decide) (by decide) ?_
  exact law_loop l C0 dC dI cI cZ cF cO e0 mi x sl sh fa lw dr dx dy tg tx ty wy wx wz br bo aa ro za zw zx zy zg bq bp dq dp lv k0 hK hXL hL L9 0 1 1 0 H locs ls (by omega) (by omega) (lawI_in [] (fun _ => .inr (0, [])) (fun _ => none) e0 0 0 0 0 0 0 0 1 0 (fun _ => 0) (fun _ => 0) (fun _ => 0) (fun _ => 0) (fun _ => 0) (fun _ => 0) (fun _ => 0) 0 0 0 0 0 0 0 0 0 0 0 0 0 0 0 0 0 (fun _ => none) (fun _ => 0) (fun _ => 0) (fun _ => 0) (fun _ => 0) (fun _ => 0) 0 0 0 0 (va_up (va_up (va_up (va_up (va_up (va_up (va_up (va_up (va_up (va_up (va_up (va_up (va_up (va_up (va_up (va_up (va_up (va_up (va_up (va_up (va_up (va_up (va_up (va_up (va_up (va_up (va_up (va_up (va_up (va_up (va_up (va_up (va_up (va_up (va_up (va_up (fun _ => 0) 1 m1) 2 m2) 3 m3) 4 m4) 5 m5) 6 m6) 7 m7) 8 m8) 9 m9) 10 m10) 11 m11) 12 m12) 13 m13) 16 m16) 17 m17) 18 m18) 22 m22) 23 m23) 24 m24) 25 m25) 27 m27) 28 m28) 29 m29) 30 m30) 32 m32) 33 m33) 34 m34) 37 m37) 38 m38) 39 m39) 40 m40) 43 m43) 50 m50) 51 m51) 52 m52) 53 m53) (fun _ => 0) (fun _ => 0) (fun _ => 0) (fun _ => 0) (fun _ => 0) (fun _ => 0) (fun _ => 0) (fun _ => 0) (fun _ => 0) (fun _ => 0) (fun _ => 0) (fun _ => 0) (fun _ => 0) (fun _ => 0) (fun _ => 0) (fun _ => 0) (fun _ => 0) (fun _ => 0) (fun _ => 0) (fun _ => 0) (fun _ => 0) (fun _ => 0) (fun _ => 0) (fun _ => 0) (fun _ => 0) (fun _ => 0) (fun _ => 0) (fun _ => 0) (fun _ => 0) (fun _ => 0) (fun _ => 0) (fun _ => 0) (fun _ => 0) (fun _ => 0) (fun _ => 0) (fun _ => 0) (fun _ => 0) (fun _ => 0) 0 0 0 0 0 0 0 0 (fun _ => 0) (fun _ => 0) (fun _ => 0) (fun _ _ _ => 0) (fun _ _ => 0) (fun _ _ => 0) hP9 hD9 shB_0 INV_0 ⟨rfl, rfl, rfl, rfl, lsR_0⟩ (by omega)) hS (lv_sub hl [0, 1, 2, 3] rfl)
end
