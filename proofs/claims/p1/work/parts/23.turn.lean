set_option maxHeartbeats 4000000 in
set_option maxRecDepth 100000 in
theorem law_turn {p : Program} {e : Env} {s : State} {m : MethodId} {below : List Frame} {meth : Method} {c : Code} (l : Launch) {b : Nat} {xs : Nat → Int32} (C0 : lw_At p s m meth c b 6 xs) (dC : Nat → ClassId) (dI : Nat → Nat → Nat) (cI cZ cF : ClassId) (hK : va_K (dC, dI) classes (zTy cI cZ cF) s) (h0 a1 a2 a3 a4 a5 a6 a7 a8 a9 f0 r1 r2 r3 r4 r5 e0 k0 z_kind z_rank z_width z_town z_state z_torn z_goneBy z_partA z_partB z_into z_many z_cx z_cy z_which z_of z_went z_lostFeature z_lostX z_lostY z_lostStep z_sheetAt z_sheets z_px z_py z_s z_ox z_oy z_met z_within z_inside z_t z_failed z_marked z_joinX z_joinY z_group : Nat) {H : Heap} {locs : List Loc} {ls : Array Slot} (hP : va_P (dC, dI) classes [(h0, .inr (8, [.ref a1, .ref a2, .ref a3, .ref a4, .ref a5, .ref a6, .ref a7, .ref a8, .ref a9, .int 0, .int 0, .int 0, .int 0])), (a1, .inr (7, [.ref f0, .int 0])), (f0, .inl (cF, 200, .inr (.inr (.inr (.inr (fun _ => none)))))), (a3, .inr (5, [.ref r1, .ref r2, .ref r3, .ref r4, .ref r5, .int 0])), (a9, .inr (10, [.int 0, .ref e0, .int 0])), (k0, .inr (9, [.int 0, .ref z_kind, .ref z_rank, .ref z_width, .ref z_town, .ref z_state, .ref z_torn, .ref z_goneBy, .ref z_partA, .ref z_partB, .ref z_into, .ref z_many, .ref z_cx, .ref z_cy, .int 0, .int 0, .ref z_which, .ref z_of, .ref z_went, .int 0, .int 0, .int 0, .ref z_lostFeature, .ref z_lostX, .ref z_lostY, .ref z_lostStep, .int 0, .ref z_sheetAt, .ref z_sheets, .ref z_px, .ref z_py, .int 0, .ref z_s, .ref z_ox, .ref z_oy, .int 0, .int 0, .ref z_met, .ref z_within, .ref z_inside, .ref z_t, .int 0, .int 0, .ref z_failed, .int 0, .int 0, .int 0, .int 0, .long 0, .long 0, .ref z_marked, .ref z_joinX, .ref z_joinY, .ref z_group, .int 0])), (z_kind, .inl (cI, 201, .inl (fun _ => 0))), (z_rank, .inl (cI, 201, .inl (fun _ => 0))), (z_width, .inl (cI, 201, .inl (fun _ => 0))), (z_town, .inl (cI, 201, .inl (fun _ => 0))), (z_state, .inl (cI, 201, .inl (fun _ => 0))), (z_torn, .inl (cZ, 201, .inl (fun _ => 0))), (z_goneBy, .inl (cI, 201, .inl (fun _ => 0))), (z_partA, .inl (cI, 201, .inl (fun _ => 0))), (z_partB, .inl (cI, 201, .inl (fun _ => 0))), (z_into, .inl (cI, 201, .inl (fun _ => 0))), (z_many, .inl (cI, 201, .inl (fun _ => 0))), (z_sheetAt, .inl (cI, 516, .inl (fun _ => 0))), (z_sheets, .inl (cI, 4096, .inl (fun _ => 0)))] H) (hD : va_D (fun q : Nat => s.heap.size ≤ q) [(h0, .inr (8, [.ref a1, .ref a2, .ref a3, .ref a4, .ref a5, .ref a6, .ref a7, .ref a8, .ref a9, .int 0, .int 0, .int 0, .int 0])), (a1, .inr (7, [.ref f0, .int 0])), (f0, .inl (cF, 200, .inr (.inr (.inr (.inr (fun _ => none)))))), (a3, .inr (5, [.ref r1, .ref r2, .ref r3, .ref r4, .ref r5, .int 0])), (a9, .inr (10, [.int 0, .ref e0, .int 0])), (k0, .inr (9, [.int 0, .ref z_kind, .ref z_rank, .ref z_width, .ref z_town, .ref z_state, .ref z_torn, .ref z_goneBy, .ref z_partA, .ref z_partB, .ref z_into, .ref z_many, .ref z_cx, .ref z_cy, .int 0, .int 0, .ref z_which, .ref z_of, .ref z_went, .int 0, .int 0, .int 0, .ref z_lostFeature, .ref z_lostX, .ref z_lostY, .ref z_lostStep, .int 0, .ref z_sheetAt, .ref z_sheets, .ref z_px, .ref z_py, .int 0, .ref z_s, .ref z_ox, .ref z_oy, .int 0, .int 0, .ref z_met, .ref z_within, .ref z_inside, .ref z_t, .int 0, .int 0, .ref z_failed, .int 0, .int 0, .int 0, .int 0, .long 0, .long 0, .ref z_marked, .ref z_joinX, .ref z_joinY, .ref z_group, .int 0])), (z_kind, .inl (cI, 201, .inl (fun _ => 0))), (z_rank, .inl (cI, 201, .inl (fun _ => 0))), (z_width, .inl (cI, 201, .inl (fun _ => 0))), (z_town, .inl (cI, 201, .inl (fun _ => 0))), (z_state, .inl (cI, 201, .inl (fun _ => 0))), (z_torn, .inl (cZ, 201, .inl (fun _ => 0))), (z_goneBy, .inl (cI, 201, .inl (fun _ => 0))), (z_partA, .inl (cI, 201, .inl (fun _ => 0))), (z_partB, .inl (cI, 201, .inl (fun _ => 0))), (z_into, .inl (cI, 201, .inl (fun _ => 0))), (z_many, .inl (cI, 201, .inl (fun _ => 0))), (z_sheetAt, .inl (cI, 516, .inl (fun _ => 0))), (z_sheets, .inl (cI, 4096, .inl (fun _ => 0)))]) (hS : va_S (fun q : Nat => s.heap.size ≤ q) s.heap H locs) (hl : lv_has ls 4 [(3, .int 0), (2, .ref k0), (1, .ref h0), (0, .ref b)]) : W p l e room_1 s m #[Value.ref b] below meth c H locs 65 37019 (lw_Z below #[Value.ref b] s) (F0 m 27 ls []) := by
  obtain ⟨hx, hb, hr, hml, hown, hts1, hX, hbl, hlocks, hgv⟩ := id C0
  have hts : ∀ w9 ∈ ws0, w9.before #[Value.ref b] s = true := fun w9 h => hts1 w9 (List.mem_filter.mp h).1
  have hA : ∀ q : Nat, s.heap.size ≤ q → (fun q : Nat => s.heap.size ≤ q) q := fun _ h => h
  have hbA : ¬ (fun q : Nat => s.heap.size ≤ q) b := Nat.not_le.mpr hbl
  refine lv_aload_n hx hb dL_law_27 rfl (lv_at hl 3 rfl) ?_
  refine lv_iload_n hx hb dL_law_28 rfl (lv_at hl 0 rfl) ?_
  refine va_sld hx hb hX hbl hbA hS (show vp_in 0 6 from by unfold vp_in; decide) dL_law_29 ?_
  refine lv_bipush (v := 31) hx hb dL_law_30 (by decide) ?_
  refine lv_iand hx hb dL_law_32 ?_
  obtain ⟨j, hj, ej⟩ := pk_andE (xs (Int32.toNatClampNeg 0)) (m := 31) 5 (by decide)
  refine zz_i (v := nI j) ej ?_
  match j, hj with
  | 0, _ =>
    refine zz_i (v := 0) (by decide) ?_
    refine lv_tableIn (tgt := 164) (off := 131) hx hb dL_law_33 (by decide) (by decide) (by decide) (by decide) ?_
    exact law_case_0 l C0 dC dI cI cZ cF hK h0 a1 a2 a3 a4 a5 a6 a7 a8 a9 f0 r1 r2 r3 r4 r5 e0 k0 z_kind z_rank z_width z_town z_state z_torn z_goneBy z_partA z_partB z_into z_many z_cx z_cy z_which z_of z_went z_lostFeature z_lostX z_lostY z_lostStep z_sheetAt z_sheets z_px z_py z_s z_ox z_oy z_met z_within z_inside z_t z_failed z_marked z_joinX z_joinY z_group hP hD hS hl
  | 1, _ =>
    refine zz_i (v := 1) (by decide) ?_
    refine lv_tableIn (tgt := 217) (off := 184) hx hb dL_law_33 (by decide) (by decide) (by decide) (by decide) ?_
    exact law_case_1 l C0 dC dI cI cZ cF hK h0 a1 a2 a3 a4 a5 a6 a7 a8 a9 f0 r1 r2 r3 r4 r5 e0 k0 z_kind z_rank z_width z_town z_state z_torn z_goneBy z_partA z_partB z_into z_many z_cx z_cy z_which z_of z_went z_lostFeature z_lostX z_lostY z_lostStep z_sheetAt z_sheets z_px z_py z_s z_ox z_oy z_met z_within z_inside z_t z_failed z_marked z_joinX z_joinY z_group hP hD hS hl
  | 2, _ =>
    refine zz_i (v := 2) (by decide) ?_
    refine lv_tableIn (tgt := 260) (off := 227) hx hb dL_law_33 (by decide) (by decide) (by decide) (by decide) ?_
    exact law_case_2 l C0 dC dI cI cZ cF hK h0 a1 a2 a3 a4 a5 a6 a7 a8 a9 f0 r1 r2 r3 r4 r5 e0 k0 z_kind z_rank z_width z_town z_state z_torn z_goneBy z_partA z_partB z_into z_many z_cx z_cy z_which z_of z_went z_lostFeature z_lostX z_lostY z_lostStep z_sheetAt z_sheets z_px z_py z_s z_ox z_oy z_met z_within z_inside z_t z_failed z_marked z_joinX z_joinY z_group hP hD hS hl
  | 3, _ =>
    refine zz_i (v := 3) (by decide) ?_
    refine lv_tableIn (tgt := 283) (off := 250) hx hb dL_law_33 (by decide) (by decide) (by decide) (by decide) ?_
    exact law_case_3 l C0 dC dI cI cZ cF hK h0 a1 a2 a3 a4 a5 a6 a7 a8 a9 f0 r1 r2 r3 r4 r5 e0 k0 z_kind z_rank z_width z_town z_state z_torn z_goneBy z_partA z_partB z_into z_many z_cx z_cy z_which z_of z_went z_lostFeature z_lostX z_lostY z_lostStep z_sheetAt z_sheets z_px z_py z_s z_ox z_oy z_met z_within z_inside z_t z_failed z_marked z_joinX z_joinY z_group hP hD hS hl
  | 4, _ =>
    refine zz_i (v := 4) (by decide) ?_
    refine lv_tableIn (tgt := 306) (off := 273) hx hb dL_law_33 (by decide) (by decide) (by decide) (by decide) ?_
    exact law_case_4 l C0 dC dI cI cZ cF hK h0 a1 a2 a3 a4 a5 a6 a7 a8 a9 f0 r1 r2 r3 r4 r5 e0 k0 z_kind z_rank z_width z_town z_state z_torn z_goneBy z_partA z_partB z_into z_many z_cx z_cy z_which z_of z_went z_lostFeature z_lostX z_lostY z_lostStep z_sheetAt z_sheets z_px z_py z_s z_ox z_oy z_met z_within z_inside z_t z_failed z_marked z_joinX z_joinY z_group hP hD hS hl
  | 5, _ =>
    refine zz_i (v := 5) (by decide) ?_
    refine lv_tableIn (tgt := 339) (off := 306) hx hb dL_law_33 (by decide) (by decide) (by decide) (by decide) ?_
    exact law_case_5 l C0 dC dI cI cZ cF hK h0 a1 a2 a3 a4 a5 a6 a7 a8 a9 f0 r1 r2 r3 r4 r5 e0 k0 z_kind z_rank z_width z_town z_state z_torn z_goneBy z_partA z_partB z_into z_many z_cx z_cy z_which z_of z_went z_lostFeature z_lostX z_lostY z_lostStep z_sheetAt z_sheets z_px z_py z_s z_ox z_oy z_met z_within z_inside z_t z_failed z_marked z_joinX z_joinY z_group hP hD hS hl
  | 6, _ =>
    refine zz_i (v := 6) (by decide) ?_
    refine lv_tableIn (tgt := 362) (off := 329) hx hb dL_law_33 (by decide) (by decide) (by decide) (by decide) ?_
    exact law_case_6 l C0 dC dI cI cZ cF hK h0 a1 a2 a3 a4 a5 a6 a7 a8 a9 f0 r1 r2 r3 r4 r5 e0 k0 z_kind z_rank z_width z_town z_state z_torn z_goneBy z_partA z_partB z_into z_many z_cx z_cy z_which z_of z_went z_lostFeature z_lostX z_lostY z_lostStep z_sheetAt z_sheets z_px z_py z_s z_ox z_oy z_met z_within z_inside z_t z_failed z_marked z_joinX z_joinY z_group hP hD hS hl
  | 7, _ =>
    refine zz_i (v := 7) (by decide) ?_
    refine lv_tableIn (tgt := 425) (off := 392) hx hb dL_law_33 (by decide) (by decide) (by decide) (by decide) ?_
    exact law_case_7 l C0 dC dI cI cZ cF hK h0 a1 a2 a3 a4 a5 a6 a7 a8 a9 f0 r1 r2 r3 r4 r5 e0 k0 z_kind z_rank z_width z_town z_state z_torn z_goneBy z_partA z_partB z_into z_many z_cx z_cy z_which z_of z_went z_lostFeature z_lostX z_lostY z_lostStep z_sheetAt z_sheets z_px z_py z_s z_ox z_oy z_met z_within z_inside z_t z_failed z_marked z_joinX z_joinY z_group hP hD hS hl
  | 8, _ =>
    refine zz_i (v := 8) (by decide) ?_
    refine lv_tableIn (tgt := 448) (off := 415) hx hb dL_law_33 (by decide) (by decide) (by decide) (by decide) ?_
    exact law_case_8 l C0 dC dI cI cZ cF hK h0 a1 a2 a3 a4 a5 a6 a7 a8 a9 f0 r1 r2 r3 r4 r5 e0 k0 z_kind z_rank z_width z_town z_state z_torn z_goneBy z_partA z_partB z_into z_many z_cx z_cy z_which z_of z_went z_lostFeature z_lostX z_lostY z_lostStep z_sheetAt z_sheets z_px z_py z_s z_ox z_oy z_met z_within z_inside z_t z_failed z_marked z_joinX z_joinY z_group hP hD hS hl
  | 9, _ =>
    refine zz_i (v := 9) (by decide) ?_
    refine lv_tableIn (tgt := 481) (off := 448) hx hb dL_law_33 (by decide) (by decide) (by decide) (by decide) ?_
    exact law_case_9 l C0 dC dI cI cZ cF hK h0 a1 a2 a3 a4 a5 a6 a7 a8 a9 f0 r1 r2 r3 r4 r5 e0 k0 z_kind z_rank z_width z_town z_state z_torn z_goneBy z_partA z_partB z_into z_many z_cx z_cy z_which z_of z_went z_lostFeature z_lostX z_lostY z_lostStep z_sheetAt z_sheets z_px z_py z_s z_ox z_oy z_met z_within z_inside z_t z_failed z_marked z_joinX z_joinY z_group hP hD hS hl
  | 10, _ =>
    refine zz_i (v := 10) (by decide) ?_
    refine lv_tableIn (tgt := 524) (off := 491) hx hb dL_law_33 (by decide) (by decide) (by decide) (by decide) ?_
    exact law_case_10 l C0 dC dI cI cZ cF hK h0 a1 a2 a3 a4 a5 a6 a7 a8 a9 f0 r1 r2 r3 r4 r5 e0 k0 z_kind z_rank z_width z_town z_state z_torn z_goneBy z_partA z_partB z_into z_many z_cx z_cy z_which z_of z_went z_lostFeature z_lostX z_lostY z_lostStep z_sheetAt z_sheets z_px z_py z_s z_ox z_oy z_met z_within z_inside z_t z_failed z_marked z_joinX z_joinY z_group hP hD hS hl
  | 11, _ =>
    refine zz_i (v := 11) (by decide) ?_
    refine lv_tableIn (tgt := 547) (off := 514) hx hb dL_law_33 (by decide) (by decide) (by decide) (by decide) ?_
    exact law_case_11 l C0 dC dI cI cZ cF hK h0 a1 a2 a3 a4 a5 a6 a7 a8 a9 f0 r1 r2 r3 r4 r5 e0 k0 z_kind z_rank z_width z_town z_state z_torn z_goneBy z_partA z_partB z_into z_many z_cx z_cy z_which z_of z_went z_lostFeature z_lostX z_lostY z_lostStep z_sheetAt z_sheets z_px z_py z_s z_ox z_oy z_met z_within z_inside z_t z_failed z_marked z_joinX z_joinY z_group hP hD hS hl
  | 12, _ =>
    refine zz_i (v := 12) (by decide) ?_
    refine lv_tableIn (tgt := 580) (off := 547) hx hb dL_law_33 (by decide) (by decide) (by decide) (by decide) ?_
    exact law_case_12 l C0 dC dI cI cZ cF hK h0 a1 a2 a3 a4 a5 a6 a7 a8 a9 f0 r1 r2 r3 r4 r5 e0 k0 z_kind z_rank z_width z_town z_state z_torn z_goneBy z_partA z_partB z_into z_many z_cx z_cy z_which z_of z_went z_lostFeature z_lostX z_lostY z_lostStep z_sheetAt z_sheets z_px z_py z_s z_ox z_oy z_met z_within z_inside z_t z_failed z_marked z_joinX z_joinY z_group hP hD hS hl
  | 13, _ =>
    refine zz_i (v := 13) (by decide) ?_
    refine lv_tableIn (tgt := 593) (off := 560) hx hb dL_law_33 (by decide) (by decide) (by decide) (by decide) ?_
    exact law_case_13 l C0 dC dI cI cZ cF hK h0 a1 a2 a3 a4 a5 a6 a7 a8 a9 f0 r1 r2 r3 r4 r5 e0 k0 z_kind z_rank z_width z_town z_state z_torn z_goneBy z_partA z_partB z_into z_many z_cx z_cy z_which z_of z_went z_lostFeature z_lostX z_lostY z_lostStep z_sheetAt z_sheets z_px z_py z_s z_ox z_oy z_met z_within z_inside z_t z_failed z_marked z_joinX z_joinY z_group hP hD hS hl
  | 14, _ =>
    refine zz_i (v := 14) (by decide) ?_
    refine lv_tableIn (tgt := 616) (off := 583) hx hb dL_law_33 (by decide) (by decide) (by decide) (by decide) ?_
    exact law_case_14 l C0 dC dI cI cZ cF hK h0 a1 a2 a3 a4 a5 a6 a7 a8 a9 f0 r1 r2 r3 r4 r5 e0 k0 z_kind z_rank z_width z_town z_state z_torn z_goneBy z_partA z_partB z_into z_many z_cx z_cy z_which z_of z_went z_lostFeature z_lostX z_lostY z_lostStep z_sheetAt z_sheets z_px z_py z_s z_ox z_oy z_met z_within z_inside z_t z_failed z_marked z_joinX z_joinY z_group hP hD hS hl
  | 15, _ =>
    refine zz_i (v := 15) (by decide) ?_
    refine lv_tableIn (tgt := 629) (off := 596) hx hb dL_law_33 (by decide) (by decide) (by decide) (by decide) ?_
    exact law_case_15 l C0 dC dI cI cZ cF hK h0 a1 a2 a3 a4 a5 a6 a7 a8 a9 f0 r1 r2 r3 r4 r5 e0 k0 z_kind z_rank z_width z_town z_state z_torn z_goneBy z_partA z_partB z_into z_many z_cx z_cy z_which z_of z_went z_lostFeature z_lostX z_lostY z_lostStep z_sheetAt z_sheets z_px z_py z_s z_ox z_oy z_met z_within z_inside z_t z_failed z_marked z_joinX z_joinY z_group hP hD hS hl
  | 16, _ =>
    refine zz_i (v := 16) (by decide) ?_
    refine lv_tableIn (tgt := 642) (off := 609) hx hb dL_law_33 (by decide) (by decide) (by decide) (by decide) ?_
    exact law_case_16 l C0 dC dI cI cZ cF hK h0 a1 a2 a3 a4 a5 a6 a7 a8 a9 f0 r1 r2 r3 r4 r5 e0 k0 z_kind z_rank z_width z_town z_state z_torn z_goneBy z_partA z_partB z_into z_many z_cx z_cy z_which z_of z_went z_lostFeature z_lostX z_lostY z_lostStep z_sheetAt z_sheets z_px z_py z_s z_ox z_oy z_met z_within z_inside z_t z_failed z_marked z_joinX z_joinY z_group hP hD hS hl
  | 17, _ =>
    refine zz_i (v := 17) (by decide) ?_
    refine lv_tableIn (tgt := 675) (off := 642) hx hb dL_law_33 (by decide) (by decide) (by decide) (by decide) ?_
    exact law_case_17 l C0 dC dI cI cZ cF hK h0 a1 a2 a3 a4 a5 a6 a7 a8 a9 f0 r1 r2 r3 r4 r5 e0 k0 z_kind z_rank z_width z_town z_state z_torn z_goneBy z_partA z_partB z_into z_many z_cx z_cy z_which z_of z_went z_lostFeature z_lostX z_lostY z_lostStep z_sheetAt z_sheets z_px z_py z_s z_ox z_oy z_met z_within z_inside z_t z_failed z_marked z_joinX z_joinY z_group hP hD hS hl
  | 18, _ =>
    refine zz_i (v := 18) (by decide) ?_
    refine lv_tableIn (tgt := 718) (off := 685) hx hb dL_law_33 (by decide) (by decide) (by decide) (by decide) ?_
    exact law_case_18 l C0 dC dI cI cZ cF hK h0 a1 a2 a3 a4 a5 a6 a7 a8 a9 f0 r1 r2 r3 r4 r5 e0 k0 z_kind z_rank z_width z_town z_state z_torn z_goneBy z_partA z_partB z_into z_many z_cx z_cy z_which z_of z_went z_lostFeature z_lostX z_lostY z_lostStep z_sheetAt z_sheets z_px z_py z_s z_ox z_oy z_met z_within z_inside z_t z_failed z_marked z_joinX z_joinY z_group hP hD hS hl
  | 19, _ =>
    refine zz_i (v := 19) (by decide) ?_
    refine lv_tableIn (tgt := 771) (off := 738) hx hb dL_law_33 (by decide) (by decide) (by decide) (by decide) ?_
    exact law_case_19 l C0 dC dI cI cZ cF hK h0 a1 a2 a3 a4 a5 a6 a7 a8 a9 f0 r1 r2 r3 r4 r5 e0 k0 z_kind z_rank z_width z_town z_state z_torn z_goneBy z_partA z_partB z_into z_many z_cx z_cy z_which z_of z_went z_lostFeature z_lostX z_lostY z_lostStep z_sheetAt z_sheets z_px z_py z_s z_ox z_oy z_met z_within z_inside z_t z_failed z_marked z_joinX z_joinY z_group hP hD hS hl
  | 20, _ =>
    refine zz_i (v := 20) (by decide) ?_
    refine lv_tableIn (tgt := 815) (off := 782) hx hb dL_law_33 (by decide) (by decide) (by decide) (by decide) ?_
    exact law_case_20 l C0 dC dI cI cZ cF hK h0 a1 a2 a3 a4 a5 a6 a7 a8 a9 f0 r1 r2 r3 r4 r5 e0 k0 z_kind z_rank z_width z_town z_state z_torn z_goneBy z_partA z_partB z_into z_many z_cx z_cy z_which z_of z_went z_lostFeature z_lostX z_lostY z_lostStep z_sheetAt z_sheets z_px z_py z_s z_ox z_oy z_met z_within z_inside z_t z_failed z_marked z_joinX z_joinY z_group hP hD hS hl
  | 21, _ =>
    refine zz_i (v := 21) (by decide) ?_
    refine lv_tableIn (tgt := 838) (off := 805) hx hb dL_law_33 (by decide) (by decide) (by decide) (by decide) ?_
    exact law_case_21 l C0 dC dI cI cZ cF hK h0 a1 a2 a3 a4 a5 a6 a7 a8 a9 f0 r1 r2 r3 r4 r5 e0 k0 z_kind z_rank z_width z_town z_state z_torn z_goneBy z_partA z_partB z_into z_many z_cx z_cy z_which z_of z_went z_lostFeature z_lostX z_lostY z_lostStep z_sheetAt z_sheets z_px z_py z_s z_ox z_oy z_met z_within z_inside z_t z_failed z_marked z_joinX z_joinY z_group hP hD hS hl
  | 22, _ =>
    refine zz_i (v := 22) (by decide) ?_
    refine lv_tableIn (tgt := 881) (off := 848) hx hb dL_law_33 (by decide) (by decide) (by decide) (by decide) ?_
    exact law_case_22 l C0 dC dI cI cZ cF hK h0 a1 a2 a3 a4 a5 a6 a7 a8 a9 f0 r1 r2 r3 r4 r5 e0 k0 z_kind z_rank z_width z_town z_state z_torn z_goneBy z_partA z_partB z_into z_many z_cx z_cy z_which z_of z_went z_lostFeature z_lostX z_lostY z_lostStep z_sheetAt z_sheets z_px z_py z_s z_ox z_oy z_met z_within z_inside z_t z_failed z_marked z_joinX z_joinY z_group hP hD hS hl
  | 23, _ =>
    refine zz_i (v := 23) (by decide) ?_
    refine lv_tableIn (tgt := 915) (off := 882) hx hb dL_law_33 (by decide) (by decide) (by decide) (by decide) ?_
    exact law_case_23 l C0 dC dI cI cZ cF hK h0 a1 a2 a3 a4 a5 a6 a7 a8 a9 f0 r1 r2 r3 r4 r5 e0 k0 z_kind z_rank z_width z_town z_state z_torn z_goneBy z_partA z_partB z_into z_many z_cx z_cy z_which z_of z_went z_lostFeature z_lostX z_lostY z_lostStep z_sheetAt z_sheets z_px z_py z_s z_ox z_oy z_met z_within z_inside z_t z_failed z_marked z_joinX z_joinY z_group hP hD hS hl
  | 24, _ =>
    refine zz_i (v := 24) (by decide) ?_
    refine lv_tableIn (tgt := 939) (off := 906) hx hb dL_law_33 (by decide) (by decide) (by decide) (by decide) ?_
    exact law_case_24 l C0 dC dI cI cZ cF hK h0 a1 a2 a3 a4 a5 a6 a7 a8 a9 f0 r1 r2 r3 r4 r5 e0 k0 z_kind z_rank z_width z_town z_state z_torn z_goneBy z_partA z_partB z_into z_many z_cx z_cy z_which z_of z_went z_lostFeature z_lostX z_lostY z_lostStep z_sheetAt z_sheets z_px z_py z_s z_ox z_oy z_met z_within z_inside z_t z_failed z_marked z_joinX z_joinY z_group hP hD hS hl
  | 25, _ =>
    refine zz_i (v := 25) (by decide) ?_
    refine lv_tableIn (tgt := 982) (off := 949) hx hb dL_law_33 (by decide) (by decide) (by decide) (by decide) ?_
    exact law_case_25 l C0 dC dI cI cZ cF hK h0 a1 a2 a3 a4 a5 a6 a7 a8 a9 f0 r1 r2 r3 r4 r5 e0 k0 z_kind z_rank z_width z_town z_state z_torn z_goneBy z_partA z_partB z_into z_many z_cx z_cy z_which z_of z_went z_lostFeature z_lostX z_lostY z_lostStep z_sheetAt z_sheets z_px z_py z_s z_ox z_oy z_met z_within z_inside z_t z_failed z_marked z_joinX z_joinY z_group hP hD hS hl
  | 26, _ =>
    refine zz_i (v := 26) (by decide) ?_
    refine lv_tableIn (tgt := 1015) (off := 982) hx hb dL_law_33 (by decide) (by decide) (by decide) (by decide) ?_
    exact law_case_26 l C0 dC dI cI cZ cF hK h0 a1 a2 a3 a4 a5 a6 a7 a8 a9 f0 r1 r2 r3 r4 r5 e0 k0 z_kind z_rank z_width z_town z_state z_torn z_goneBy z_partA z_partB z_into z_many z_cx z_cy z_which z_of z_went z_lostFeature z_lostX z_lostY z_lostStep z_sheetAt z_sheets z_px z_py z_s z_ox z_oy z_met z_within z_inside z_t z_failed z_marked z_joinX z_joinY z_group hP hD hS hl
  | 27, _ =>
    refine zz_i (v := 27) (by decide) ?_
    refine lv_tableIn (tgt := 1048) (off := 1015) hx hb dL_law_33 (by decide) (by decide) (by decide) (by decide) ?_
    exact law_case_27 l C0 dC dI cI cZ cF hK h0 a1 a2 a3 a4 a5 a6 a7 a8 a9 f0 r1 r2 r3 r4 r5 e0 k0 z_kind z_rank z_width z_town z_state z_torn z_goneBy z_partA z_partB z_into z_many z_cx z_cy z_which z_of z_went z_lostFeature z_lostX z_lostY z_lostStep z_sheetAt z_sheets z_px z_py z_s z_ox z_oy z_met z_within z_inside z_t z_failed z_marked z_joinX z_joinY z_group hP hD hS hl
  | 28, _ =>
    refine zz_i (v := 28) (by decide) ?_
    refine lv_tableIn (tgt := 1071) (off := 1038) hx hb dL_law_33 (by decide) (by decide) (by decide) (by decide) ?_
    exact law_case_28 l C0 dC dI cI cZ cF hK h0 a1 a2 a3 a4 a5 a6 a7 a8 a9 f0 r1 r2 r3 r4 r5 e0 k0 z_kind z_rank z_width z_town z_state z_torn z_goneBy z_partA z_partB z_into z_many z_cx z_cy z_which z_of z_went z_lostFeature z_lostX z_lostY z_lostStep z_sheetAt z_sheets z_px z_py z_s z_ox z_oy z_met z_within z_inside z_t z_failed z_marked z_joinX z_joinY z_group hP hD hS hl
  | 29, _ =>
    refine zz_i (v := 29) (by decide) ?_
    refine lv_tableOut (tgt := 1084) hx hb dL_law_33 (by decide) (by decide) ?_
    refine W.widen (k := 265) (n := 57019) (by decide) (by decide) ?_
    exact law_tail l C0 hS (lv_sub hl [0, 3] rfl)
  | 30, _ =>
    refine zz_i (v := 30) (by decide) ?_
    refine lv_tableOut (tgt := 1084) hx hb dL_law_33 (by decide) (by decide) ?_
    refine W.widen (k := 265) (n := 57019) (by decide) (by decide) ?_
    exact law_tail l C0 hS (lv_sub hl [0, 3] rfl)
  | 31, _ =>
    refine zz_i (v := 31) (by decide) ?_
    refine lv_tableOut (tgt := 1084) hx hb dL_law_33 (by decide) (by decide) ?_
    refine W.widen (k := 265) (n := 57019) (by decide) (by decide) ?_
    exact law_tail l C0 hS (lv_sub hl [0, 3] rfl)
  | j + 32, hj => exact absurd hj (by omega)
