section
theorem la_0_1 {p : Program} {e : Env} {s : State} {m : MethodId} {below : List Frame} {meth : Method} {c : Code} (l : Launch) {b L9 : Nat} {xs : Nat → Int32} (C0 : lw_At p s m meth c b L9 xs) {x k0 k9 ce sl : Nat} (hk9 : 6 * k9 + 6 ≤ L9) (hL9 : L9 ≤ 3072) {H : Heap} {locs : List Loc} {ls : Array Slot} {rest : List Value} (hS : va_S (fun q : Nat => s.heap.size ≤ q) s.heap H locs) (hl : lv_has ls 4 [(3, .int (nI (6 * k9))), (2, .ref k0), (1, .ref x), (0, .ref b)]) {v1 : Int32} {v2 : Int32} {v3 : Int32} {v4 : Int32} (h1 : xs (6 * k9 + 1) = v1) (h2 : xs (6 * k9 + 2) = v2) (h3 : xs (6 * k9 + 3) = v3) (h4 : xs (6 * k9 + 4) = v4) (k : W p l e room_1 s m #[Value.ref b] below meth c H locs ce sl (lw_Z below #[Value.ref b] s) (F0 m 185 ls (.int v4 :: .int v3 :: .int v2 :: .int v1 :: .ref x :: rest))) : W p l e room_1 s m #[Value.ref b] below meth c H locs ce sl (lw_Z below #[Value.ref b] s) (F0 m 164 ls (rest)) := by
  obtain ⟨hx, hb, hr, hml, hown, hts1, hX, hbl, hlocks, hgv⟩ := id C0
  have hbA : ¬ (fun q : Nat => s.heap.size ≤ q) b := Nat.not_le.mpr hbl
  refine lv_aload_n hx hb dL_law_164 rfl (lv_at hl 2 rfl) ?_
  refine lv_aload_n hx hb dL_law_165 rfl (lv_at hl 3 rfl) ?_
  refine lv_iload_n hx hb dL_law_166 rfl (lv_at hl 0 rfl) ?_
  refine lv_iconst (v := 1) hx hb dL_law_167 rfl ?_
  refine lv_iadd hx hb dL_law_168 ?_
  refine zz_i (v := nI (6 * k9 + 1)) (nI_add (6 * k9) 1) ?_
  refine va_sld hx hb hX hbl hbA hS (vp_in_nI (n := 6 * k9 + 1) (N := L9) (by omega) (by omega)) dL_law_169 ?_
  refine zz_i (v := v1) ((congrArg xs (nI_clamp (by omega))).trans h1) ?_
  refine lv_aload_n hx hb dL_law_170 rfl (lv_at hl 3 rfl) ?_
  refine lv_iload_n hx hb dL_law_171 rfl (lv_at hl 0 rfl) ?_
  refine lv_iconst (v := 2) hx hb dL_law_172 rfl ?_
  refine lv_iadd hx hb dL_law_173 ?_
  refine zz_i (v := nI (6 * k9 + 2)) (nI_add (6 * k9) 2) ?_
  refine va_sld hx hb hX hbl hbA hS (vp_in_nI (n := 6 * k9 + 2) (N := L9) (by omega) (by omega)) dL_law_174 ?_
  refine zz_i (v := v2) ((congrArg xs (nI_clamp (by omega))).trans h2) ?_
  refine lv_aload_n hx hb dL_law_175 rfl (lv_at hl 3 rfl) ?_
  refine lv_iload_n hx hb dL_law_176 rfl (lv_at hl 0 rfl) ?_
  refine lv_iconst (v := 3) hx hb dL_law_177 rfl ?_
  refine lv_iadd hx hb dL_law_178 ?_
  refine zz_i (v := nI (6 * k9 + 3)) (nI_add (6 * k9) 3) ?_
  refine va_sld hx hb hX hbl hbA hS (vp_in_nI (n := 6 * k9 + 3) (N := L9) (by omega) (by omega)) dL_law_179 ?_
  refine zz_i (v := v3) ((congrArg xs (nI_clamp (by omega))).trans h3) ?_
  refine lv_aload_n hx hb dL_law_180 rfl (lv_at hl 3 rfl) ?_
  refine lv_iload_n hx hb dL_law_181 rfl (lv_at hl 0 rfl) ?_
  refine lv_iconst (v := 4) hx hb dL_law_182 rfl ?_
  refine lv_iadd hx hb dL_law_183 ?_
  refine zz_i (v := nI (6 * k9 + 4)) (nI_add (6 * k9) 4) ?_
  refine va_sld hx hb hX hbl hbA hS (vp_in_nI (n := 6 * k9 + 4) (N := L9) (by omega) (by omega)) dL_law_184 ?_
  refine zz_i (v := v4) ((congrArg xs (nI_clamp (by omega))).trans h4) ?_
  exact k
theorem la_0_2 {p : Program} {e : Env} {s : State} {m : MethodId} {below : List Frame} {meth : Method} {c : Code} (l : Launch) {b L9 : Nat} {xs : Nat → Int32} (C0 : lw_At p s m meth c b L9 xs) {x k0 k9 ce sl : Nat} (hk9 : 6 * k9 + 6 ≤ L9) (hL9 : L9 ≤ 3072) {H : Heap} {locs : List Loc} {ls : Array Slot} {rest : List Value} (hS : va_S (fun q : Nat => s.heap.size ≤ q) s.heap H locs) (hl : lv_has ls 4 [(3, .int (nI (6 * k9))), (2, .ref k0), (1, .ref x), (0, .ref b)]) {v1 : Int32} {v2 : Int32} {v3 : Int32} {v4 : Int32} (h1 : xs (6 * k9 + 1) = v1) (h2 : xs (6 * k9 + 2) = v2) (h3 : xs (6 * k9 + 3) = v3) (h4 : xs (6 * k9 + 4) = v4) (k : W p l e room_1 s m #[Value.ref b] below meth c H locs ce sl (lw_Z below #[Value.ref b] s) (F0 m 210 ls (.int v4 :: .int v3 :: .int v2 :: .int v1 :: .ref k0 :: rest))) : W p l e room_1 s m #[Value.ref b] below meth c H locs ce sl (lw_Z below #[Value.ref b] s) (F0 m 189 ls (rest)) := by
  obtain ⟨hx, hb, hr, hml, hown, hts1, hX, hbl, hlocks, hgv⟩ := id C0
  have hbA : ¬ (fun q : Nat => s.heap.size ≤ q) b := Nat.not_le.mpr hbl
  refine lv_aload_n hx hb dL_law_189 rfl (lv_at hl 1 rfl) ?_
  refine lv_aload_n hx hb dL_law_190 rfl (lv_at hl 3 rfl) ?_
  refine lv_iload_n hx hb dL_law_191 rfl (lv_at hl 0 rfl) ?_
  refine lv_iconst (v := 1) hx hb dL_law_192 rfl ?_
  refine lv_iadd hx hb dL_law_193 ?_
  refine zz_i (v := nI (6 * k9 + 1)) (nI_add (6 * k9) 1) ?_
  refine va_sld hx hb hX hbl hbA hS (vp_in_nI (n := 6 * k9 + 1) (N := L9) (by omega) (by omega)) dL_law_194 ?_
  refine zz_i (v := v1) ((congrArg xs (nI_clamp (by omega))).trans h1) ?_
  refine lv_aload_n hx hb dL_law_195 rfl (lv_at hl 3 rfl) ?_
  refine lv_iload_n hx hb dL_law_196 rfl (lv_at hl 0 rfl) ?_
  refine lv_iconst (v := 2) hx hb dL_law_197 rfl ?_
  refine lv_iadd hx hb dL_law_198 ?_
  refine zz_i (v := nI (6 * k9 + 2)) (nI_add (6 * k9) 2) ?_
  refine va_sld hx hb hX hbl hbA hS (vp_in_nI (n := 6 * k9 + 2) (N := L9) (by omega) (by omega)) dL_law_199 ?_
  refine zz_i (v := v2) ((congrArg xs (nI_clamp (by omega))).trans h2) ?_
  refine lv_aload_n hx hb dL_law_200 rfl (lv_at hl 3 rfl) ?_
  refine lv_iload_n hx hb dL_law_201 rfl (lv_at hl 0 rfl) ?_
  refine lv_iconst (v := 3) hx hb dL_law_202 rfl ?_
  refine lv_iadd hx hb dL_law_203 ?_
  refine zz_i (v := nI (6 * k9 + 3)) (nI_add (6 * k9) 3) ?_
  refine va_sld hx hb hX hbl hbA hS (vp_in_nI (n := 6 * k9 + 3) (N := L9) (by omega) (by omega)) dL_law_204 ?_
  refine zz_i (v := v3) ((congrArg xs (nI_clamp (by omega))).trans h3) ?_
  refine lv_aload_n hx hb dL_law_205 rfl (lv_at hl 3 rfl) ?_
  refine lv_iload_n hx hb dL_law_206 rfl (lv_at hl 0 rfl) ?_
  refine lv_iconst (v := 4) hx hb dL_law_207 rfl ?_
  refine lv_iadd hx hb dL_law_208 ?_
  refine zz_i (v := nI (6 * k9 + 4)) (nI_add (6 * k9) 4) ?_
  refine va_sld hx hb hX hbl hbA hS (vp_in_nI (n := 6 * k9 + 4) (N := L9) (by omega) (by omega)) dL_law_209 ?_
  refine zz_i (v := v4) ((congrArg xs (nI_clamp (by omega))).trans h4) ?_
  exact k
theorem la_1_1 {p : Program} {e : Env} {s : State} {m : MethodId} {below : List Frame} {meth : Method} {c : Code} (l : Launch) {b L9 : Nat} {xs : Nat → Int32} (C0 : lw_At p s m meth c b L9 xs) {x k0 k9 ce sl : Nat} (hk9 : 6 * k9 + 6 ≤ L9) (hL9 : L9 ≤ 3072) {H : Heap} {locs : List Loc} {ls : Array Slot} {rest : List Value} (hS : va_S (fun q : Nat => s.heap.size ≤ q) s.heap H locs) (hl : lv_has ls 4 [(3, .int (nI (6 * k9))), (2, .ref k0), (1, .ref x), (0, .ref b)]) {v1 : Int32} {v2 : Int32} {v3 : Int32} (h1 : xs (6 * k9 + 1) = v1) (h2 : xs (6 * k9 + 2) = v2) (h3 : xs (6 * k9 + 3) = v3) (k : W p l e room_1 s m #[Value.ref b] below meth c H locs ce sl (lw_Z below #[Value.ref b] s) (F0 m 233 ls (.int v3 :: .int v2 :: .int v1 :: .ref x :: rest))) : W p l e room_1 s m #[Value.ref b] below meth c H locs ce sl (lw_Z below #[Value.ref b] s) (F0 m 217 ls (rest)) := by
  obtain ⟨hx, hb, hr, hml, hown, hts1, hX, hbl, hlocks, hgv⟩ := id C0
  have hbA : ¬ (fun q : Nat => s.heap.size ≤ q) b := Nat.not_le.mpr hbl
  refine lv_aload_n hx hb dL_law_217 rfl (lv_at hl 2 rfl) ?_
  refine lv_aload_n hx hb dL_law_218 rfl (lv_at hl 3 rfl) ?_
  refine lv_iload_n hx hb dL_law_219 rfl (lv_at hl 0 rfl) ?_
  refine lv_iconst (v := 1) hx hb dL_law_220 rfl ?_
  refine lv_iadd hx hb dL_law_221 ?_
  refine zz_i (v := nI (6 * k9 + 1)) (nI_add (6 * k9) 1) ?_
  refine va_sld hx hb hX hbl hbA hS (vp_in_nI (n := 6 * k9 + 1) (N := L9) (by omega) (by omega)) dL_law_222 ?_
  refine zz_i (v := v1) ((congrArg xs (nI_clamp (by omega))).trans h1) ?_
  refine lv_aload_n hx hb dL_law_223 rfl (lv_at hl 3 rfl) ?_
  refine lv_iload_n hx hb dL_law_224 rfl (lv_at hl 0 rfl) ?_
  refine lv_iconst (v := 2) hx hb dL_law_225 rfl ?_
  refine lv_iadd hx hb dL_law_226 ?_
  refine zz_i (v := nI (6 * k9 + 2)) (nI_add (6 * k9) 2) ?_
  refine va_sld hx hb hX hbl hbA hS (vp_in_nI (n := 6 * k9 + 2) (N := L9) (by omega) (by omega)) dL_law_227 ?_
  refine zz_i (v := v2) ((congrArg xs (nI_clamp (by omega))).trans h2) ?_
  refine lv_aload_n hx hb dL_law_228 rfl (lv_at hl 3 rfl) ?_
  refine lv_iload_n hx hb dL_law_229 rfl (lv_at hl 0 rfl) ?_
  refine lv_iconst (v := 3) hx hb dL_law_230 rfl ?_
  refine lv_iadd hx hb dL_law_231 ?_
  refine zz_i (v := nI (6 * k9 + 3)) (nI_add (6 * k9) 3) ?_
  refine va_sld hx hb hX hbl hbA hS (vp_in_nI (n := 6 * k9 + 3) (N := L9) (by omega) (by omega)) dL_law_232 ?_
  refine zz_i (v := v3) ((congrArg xs (nI_clamp (by omega))).trans h3) ?_
  exact k
theorem la_1_2 {p : Program} {e : Env} {s : State} {m : MethodId} {below : List Frame} {meth : Method} {c : Code} (l : Launch) {b L9 : Nat} {xs : Nat → Int32} (C0 : lw_At p s m meth c b L9 xs) {x k0 k9 ce sl : Nat} (hk9 : 6 * k9 + 6 ≤ L9) (hL9 : L9 ≤ 3072) {H : Heap} {locs : List Loc} {ls : Array Slot} {rest : List Value} (hS : va_S (fun q : Nat => s.heap.size ≤ q) s.heap H locs) (hl : lv_has ls 4 [(3, .int (nI (6 * k9))), (2, .ref k0), (1, .ref x), (0, .ref b)]) {v1 : Int32} {v2 : Int32} {v3 : Int32} (h1 : xs (6 * k9 + 1) = v1) (h2 : xs (6 * k9 + 2) = v2) (h3 : xs (6 * k9 + 3) = v3) (k : W p l e room_1 s m #[Value.ref b] below meth c H locs ce sl (lw_Z below #[Value.ref b] s) (F0 m 253 ls (.int v3 :: .int v2 :: .int v1 :: .ref k0 :: rest))) : W p l e room_1 s m #[Value.ref b] below meth c H locs ce sl (lw_Z below #[Value.ref b] s) (F0 m 237 ls (rest)) := by
  obtain ⟨hx, hb, hr, hml, hown, hts1, hX, hbl, hlocks, hgv⟩ := id C0
  have hbA : ¬ (fun q : Nat => s.heap.size ≤ q) b := Nat.not_le.mpr hbl
  refine lv_aload_n hx hb dL_law_237 rfl (lv_at hl 1 rfl) ?_
  refine lv_aload_n hx hb dL_law_238 rfl (lv_at hl 3 rfl) ?_
  refine lv_iload_n hx hb dL_law_239 rfl (lv_at hl 0 rfl) ?_
  refine lv_iconst (v := 1) hx hb dL_law_240 rfl ?_
  refine lv_iadd hx hb dL_law_241 ?_
  refine zz_i (v := nI (6 * k9 + 1)) (nI_add (6 * k9) 1) ?_
  refine va_sld hx hb hX hbl hbA hS (vp_in_nI (n := 6 * k9 + 1) (N := L9) (by omega) (by omega)) dL_law_242 ?_
  refine zz_i (v := v1) ((congrArg xs (nI_clamp (by omega))).trans h1) ?_
  refine lv_aload_n hx hb dL_law_243 rfl (lv_at hl 3 rfl) ?_
  refine lv_iload_n hx hb dL_law_244 rfl (lv_at hl 0 rfl) ?_
  refine lv_iconst (v := 2) hx hb dL_law_245 rfl ?_
  refine lv_iadd hx hb dL_law_246 ?_
  refine zz_i (v := nI (6 * k9 + 2)) (nI_add (6 * k9) 2) ?_
  refine va_sld hx hb hX hbl hbA hS (vp_in_nI (n := 6 * k9 + 2) (N := L9) (by omega) (by omega)) dL_law_247 ?_
  refine zz_i (v := v2) ((congrArg xs (nI_clamp (by omega))).trans h2) ?_
  refine lv_aload_n hx hb dL_law_248 rfl (lv_at hl 3 rfl) ?_
  refine lv_iload_n hx hb dL_law_249 rfl (lv_at hl 0 rfl) ?_
  refine lv_iconst (v := 3) hx hb dL_law_250 rfl ?_
  refine lv_iadd hx hb dL_law_251 ?_
  refine zz_i (v := nI (6 * k9 + 3)) (nI_add (6 * k9) 3) ?_
  refine va_sld hx hb hX hbl hbA hS (vp_in_nI (n := 6 * k9 + 3) (N := L9) (by omega) (by omega)) dL_law_252 ?_
  refine zz_i (v := v3) ((congrArg xs (nI_clamp (by omega))).trans h3) ?_
  exact k
theorem la_2_1 {p : Program} {e : Env} {s : State} {m : MethodId} {below : List Frame} {meth : Method} {c : Code} (l : Launch) {b L9 : Nat} {xs : Nat → Int32} (C0 : lw_At p s m meth c b L9 xs) {x k0 k9 ce sl : Nat} (hk9 : 6 * k9 + 6 ≤ L9) (hL9 : L9 ≤ 3072) {H : Heap} {locs : List Loc} {ls : Array Slot} {rest : List Value} (hS : va_S (fun q : Nat => s.heap.size ≤ q) s.heap H locs) (hl : lv_has ls 4 [(3, .int (nI (6 * k9))), (2, .ref k0), (1, .ref x), (0, .ref b)]) {v1 : Int32} (h1 : xs (6 * k9 + 1) = v1) (k : W p l e room_1 s m #[Value.ref b] below meth c H locs ce sl (lw_Z below #[Value.ref b] s) (F0 m 266 ls (.int v1 :: .ref x :: rest))) : W p l e room_1 s m #[Value.ref b] below meth c H locs ce sl (lw_Z below #[Value.ref b] s) (F0 m 260 ls (rest)) := by
  obtain ⟨hx, hb, hr, hml, hown, hts1, hX, hbl, hlocks, hgv⟩ := id C0
  have hbA : ¬ (fun q : Nat => s.heap.size ≤ q) b := Nat.not_le.mpr hbl
  refine lv_aload_n hx hb dL_law_260 rfl (lv_at hl 2 rfl) ?_
  refine lv_aload_n hx hb dL_law_261 rfl (lv_at hl 3 rfl) ?_
  refine lv_iload_n hx hb dL_law_262 rfl (lv_at hl 0 rfl) ?_
  refine lv_iconst (v := 1) hx hb dL_law_263 rfl ?_
  refine lv_iadd hx hb dL_law_264 ?_
  refine zz_i (v := nI (6 * k9 + 1)) (nI_add (6 * k9) 1) ?_
  refine va_sld hx hb hX hbl hbA hS (vp_in_nI (n := 6 * k9 + 1) (N := L9) (by omega) (by omega)) dL_law_265 ?_
  refine zz_i (v := v1) ((congrArg xs (nI_clamp (by omega))).trans h1) ?_
  exact k
theorem la_2_2 {p : Program} {e : Env} {s : State} {m : MethodId} {below : List Frame} {meth : Method} {c : Code} (l : Launch) {b L9 : Nat} {xs : Nat → Int32} (C0 : lw_At p s m meth c b L9 xs) {x k0 k9 ce sl : Nat} (hk9 : 6 * k9 + 6 ≤ L9) (hL9 : L9 ≤ 3072) {H : Heap} {locs : List Loc} {ls : Array Slot} {rest : List Value} (hS : va_S (fun q : Nat => s.heap.size ≤ q) s.heap H locs) (hl : lv_has ls 4 [(3, .int (nI (6 * k9))), (2, .ref k0), (1, .ref x), (0, .ref b)]) {v1 : Int32} (h1 : xs (6 * k9 + 1) = v1) (k : W p l e room_1 s m #[Value.ref b] below meth c H locs ce sl (lw_Z below #[Value.ref b] s) (F0 m 276 ls (.int v1 :: .ref k0 :: rest))) : W p l e room_1 s m #[Value.ref b] below meth c H locs ce sl (lw_Z below #[Value.ref b] s) (F0 m 270 ls (rest)) := by
  obtain ⟨hx, hb, hr, hml, hown, hts1, hX, hbl, hlocks, hgv⟩ := id C0
  have hbA : ¬ (fun q : Nat => s.heap.size ≤ q) b := Nat.not_le.mpr hbl
  refine lv_aload_n hx hb dL_law_270 rfl (lv_at hl 1 rfl) ?_
  refine lv_aload_n hx hb dL_law_271 rfl (lv_at hl 3 rfl) ?_
  refine lv_iload_n hx hb dL_law_272 rfl (lv_at hl 0 rfl) ?_
  refine lv_iconst (v := 1) hx hb dL_law_273 rfl ?_
  refine lv_iadd hx hb dL_law_274 ?_
  refine zz_i (v := nI (6 * k9 + 1)) (nI_add (6 * k9) 1) ?_
  refine va_sld hx hb hX hbl hbA hS (vp_in_nI (n := 6 * k9 + 1) (N := L9) (by omega) (by omega)) dL_law_275 ?_
  refine zz_i (v := v1) ((congrArg xs (nI_clamp (by omega))).trans h1) ?_
  exact k
theorem la_3_1 {p : Program} {e : Env} {s : State} {m : MethodId} {below : List Frame} {meth : Method} {c : Code} (l : Launch) {b L9 : Nat} {xs : Nat → Int32} (C0 : lw_At p s m meth c b L9 xs) {x k0 k9 ce sl : Nat} (hk9 : 6 * k9 + 6 ≤ L9) (hL9 : L9 ≤ 3072) {H : Heap} {locs : List Loc} {ls : Array Slot} {rest : List Value} (hS : va_S (fun q : Nat => s.heap.size ≤ q) s.heap H locs) (hl : lv_has ls 4 [(3, .int (nI (6 * k9))), (2, .ref k0), (1, .ref x), (0, .ref b)]) {v1 : Int32} (h1 : xs (6 * k9 + 1) = v1) (k : W p l e room_1 s m #[Value.ref b] below meth c H locs ce sl (lw_Z below #[Value.ref b] s) (F0 m 289 ls (.int v1 :: .ref x :: rest))) : W p l e room_1 s m #[Value.ref b] below meth c H locs ce sl (lw_Z below #[Value.ref b] s) (F0 m 283 ls (rest)) := by
  obtain ⟨hx, hb, hr, hml, hown, hts1, hX, hbl, hlocks, hgv⟩ := id C0
  have hbA : ¬ (fun q : Nat => s.heap.size ≤ q) b := Nat.not_le.mpr hbl
  refine lv_aload_n hx hb dL_law_283 rfl (lv_at hl 2 rfl) ?_
  refine lv_aload_n hx hb dL_law_284 rfl (lv_at hl 3 rfl) ?_
  refine lv_iload_n hx hb dL_law_285 rfl (lv_at hl 0 rfl) ?_
  refine lv_iconst (v := 1) hx hb dL_law_286 rfl ?_
  refine lv_iadd hx hb dL_law_287 ?_
  refine zz_i (v := nI (6 * k9 + 1)) (nI_add (6 * k9) 1) ?_
  refine va_sld hx hb hX hbl hbA hS (vp_in_nI (n := 6 * k9 + 1) (N := L9) (by omega) (by omega)) dL_law_288 ?_
  refine zz_i (v := v1) ((congrArg xs (nI_clamp (by omega))).trans h1) ?_
  exact k
theorem la_3_2 {p : Program} {e : Env} {s : State} {m : MethodId} {below : List Frame} {meth : Method} {c : Code} (l : Launch) {b L9 : Nat} {xs : Nat → Int32} (C0 : lw_At p s m meth c b L9 xs) {x k0 k9 ce sl : Nat} (hk9 : 6 * k9 + 6 ≤ L9) (hL9 : L9 ≤ 3072) {H : Heap} {locs : List Loc} {ls : Array Slot} {rest : List Value} (hS : va_S (fun q : Nat => s.heap.size ≤ q) s.heap H locs) (hl : lv_has ls 4 [(3, .int (nI (6 * k9))), (2, .ref k0), (1, .ref x), (0, .ref b)]) {v1 : Int32} (h1 : xs (6 * k9 + 1) = v1) (k : W p l e room_1 s m #[Value.ref b] below meth c H locs ce sl (lw_Z below #[Value.ref b] s) (F0 m 299 ls (.int v1 :: .ref k0 :: rest))) : W p l e room_1 s m #[Value.ref b] below meth c H locs ce sl (lw_Z below #[Value.ref b] s) (F0 m 293 ls (rest)) := by
  obtain ⟨hx, hb, hr, hml, hown, hts1, hX, hbl, hlocks, hgv⟩ := id C0
  have hbA : ¬ (fun q : Nat => s.heap.size ≤ q) b := Nat.not_le.mpr hbl
  refine lv_aload_n hx hb dL_law_293 rfl (lv_at hl 1 rfl) ?_
  refine lv_aload_n hx hb dL_law_294 rfl (lv_at hl 3 rfl) ?_
  refine lv_iload_n hx hb dL_law_295 rfl (lv_at hl 0 rfl) ?_
  refine lv_iconst (v := 1) hx hb dL_law_296 rfl ?_
  refine lv_iadd hx hb dL_law_297 ?_
  refine zz_i (v := nI (6 * k9 + 1)) (nI_add (6 * k9) 1) ?_
  refine va_sld hx hb hX hbl hbA hS (vp_in_nI (n := 6 * k9 + 1) (N := L9) (by omega) (by omega)) dL_law_298 ?_
  refine zz_i (v := v1) ((congrArg xs (nI_clamp (by omega))).trans h1) ?_
  exact k
theorem la_4_1 {p : Program} {e : Env} {s : State} {m : MethodId} {below : List Frame} {meth : Method} {c : Code} (l : Launch) {b L9 : Nat} {xs : Nat → Int32} (C0 : lw_At p s m meth c b L9 xs) {x k0 k9 ce sl : Nat} (hk9 : 6 * k9 + 6 ≤ L9) (hL9 : L9 ≤ 3072) {H : Heap} {locs : List Loc} {ls : Array Slot} {rest : List Value} (hS : va_S (fun q : Nat => s.heap.size ≤ q) s.heap H locs) (hl : lv_has ls 4 [(3, .int (nI (6 * k9))), (2, .ref k0), (1, .ref x), (0, .ref b)]) {v1 : Int32} {v2 : Int32} (h1 : xs (6 * k9 + 1) = v1) (h2 : xs (6 * k9 + 2) = v2) (k : W p l e room_1 s m #[Value.ref b] below meth c H locs ce sl (lw_Z below #[Value.ref b] s) (F0 m 317 ls (.int v2 :: .int v1 :: .ref x :: rest))) : W p l e room_1 s m #[Value.ref b] below meth c H locs ce sl (lw_Z below #[Value.ref b] s) (F0 m 306 ls (rest)) := by
  obtain ⟨hx, hb, hr, hml, hown, hts1, hX, hbl, hlocks, hgv⟩ := id C0
  have hbA : ¬ (fun q : Nat => s.heap.size ≤ q) b := Nat.not_le.mpr hbl
  refine lv_aload_n hx hb dL_law_306 rfl (lv_at hl 2 rfl) ?_
  refine lv_aload_n hx hb dL_law_307 rfl (lv_at hl 3 rfl) ?_
  refine lv_iload_n hx hb dL_law_308 rfl (lv_at hl 0 rfl) ?_
  refine lv_iconst (v := 1) hx hb dL_law_309 rfl ?_
  refine lv_iadd hx hb dL_law_310 ?_
  refine zz_i (v := nI (6 * k9 + 1)) (nI_add (6 * k9) 1) ?_
  refine va_sld hx hb hX hbl hbA hS (vp_in_nI (n := 6 * k9 + 1) (N := L9) (by omega) (by omega)) dL_law_311 ?_
  refine zz_i (v := v1) ((congrArg xs (nI_clamp (by omega))).trans h1) ?_
  refine lv_aload_n hx hb dL_law_312 rfl (lv_at hl 3 rfl) ?_
  refine lv_iload_n hx hb dL_law_313 rfl (lv_at hl 0 rfl) ?_
  refine lv_iconst (v := 2) hx hb dL_law_314 rfl ?_
  refine lv_iadd hx hb dL_law_315 ?_
  refine zz_i (v := nI (6 * k9 + 2)) (nI_add (6 * k9) 2) ?_
  refine va_sld hx hb hX hbl hbA hS (vp_in_nI (n := 6 * k9 + 2) (N := L9) (by omega) (by omega)) dL_law_316 ?_
  refine zz_i (v := v2) ((congrArg xs (nI_clamp (by omega))).trans h2) ?_
  exact k
theorem la_4_2 {p : Program} {e : Env} {s : State} {m : MethodId} {below : List Frame} {meth : Method} {c : Code} (l : Launch) {b L9 : Nat} {xs : Nat → Int32} (C0 : lw_At p s m meth c b L9 xs) {x k0 k9 ce sl : Nat} (hk9 : 6 * k9 + 6 ≤ L9) (hL9 : L9 ≤ 3072) {H : Heap} {locs : List Loc} {ls : Array Slot} {rest : List Value} (hS : va_S (fun q : Nat => s.heap.size ≤ q) s.heap H locs) (hl : lv_has ls 4 [(3, .int (nI (6 * k9))), (2, .ref k0), (1, .ref x), (0, .ref b)]) {v1 : Int32} {v2 : Int32} (h1 : xs (6 * k9 + 1) = v1) (h2 : xs (6 * k9 + 2) = v2) (k : W p l e room_1 s m #[Value.ref b] below meth c H locs ce sl (lw_Z below #[Value.ref b] s) (F0 m 332 ls (.int v2 :: .int v1 :: .ref k0 :: rest))) : W p l e room_1 s m #[Value.ref b] below meth c H locs ce sl (lw_Z below #[Value.ref b] s) (F0 m 321 ls (rest)) := by
  obtain ⟨hx, hb, hr, hml, hown, hts1, hX, hbl, hlocks, hgv⟩ := id C0
  have hbA : ¬ (fun q : Nat => s.heap.size ≤ q) b := Nat.not_le.mpr hbl
  refine lv_aload_n hx hb dL_law_321 rfl (lv_at hl 1 rfl) ?_
  refine lv_aload_n hx hb dL_law_322 rfl (lv_at hl 3 rfl) ?_
  refine lv_iload_n hx hb dL_law_323 rfl (lv_at hl 0 rfl) ?_
  refine lv_iconst (v := 1) hx hb dL_law_324 rfl ?_
  refine lv_iadd hx hb dL_law_325 ?_
  refine zz_i (v := nI (6 * k9 + 1)) (nI_add (6 * k9) 1) ?_
  refine va_sld hx hb hX hbl hbA hS (vp_in_nI (n := 6 * k9 + 1) (N := L9) (by omega) (by omega)) dL_law_326 ?_
  refine zz_i (v := v1) ((congrArg xs (nI_clamp (by omega))).trans h1) ?_
  refine lv_aload_n hx hb dL_law_327 rfl (lv_at hl 3 rfl) ?_
  refine lv_iload_n hx hb dL_law_328 rfl (lv_at hl 0 rfl) ?_
  refine lv_iconst (v := 2) hx hb dL_law_329 rfl ?_
  refine lv_iadd hx hb dL_law_330 ?_
  refine zz_i (v := nI (6 * k9 + 2)) (nI_add (6 * k9) 2) ?_
  refine va_sld hx hb hX hbl hbA hS (vp_in_nI (n := 6 * k9 + 2) (N := L9) (by omega) (by omega)) dL_law_331 ?_
  refine zz_i (v := v2) ((congrArg xs (nI_clamp (by omega))).trans h2) ?_
  exact k
theorem la_5_1 {p : Program} {e : Env} {s : State} {m : MethodId} {below : List Frame} {meth : Method} {c : Code} (l : Launch) {b L9 : Nat} {xs : Nat → Int32} (C0 : lw_At p s m meth c b L9 xs) {x k0 k9 ce sl : Nat} (hk9 : 6 * k9 + 6 ≤ L9) (hL9 : L9 ≤ 3072) {H : Heap} {locs : List Loc} {ls : Array Slot} {rest : List Value} (hS : va_S (fun q : Nat => s.heap.size ≤ q) s.heap H locs) (hl : lv_has ls 4 [(3, .int (nI (6 * k9))), (2, .ref k0), (1, .ref x), (0, .ref b)]) {v1 : Int32} (h1 : xs (6 * k9 + 1) = v1) (k : W p l e room_1 s m #[Value.ref b] below meth c H locs ce sl (lw_Z below #[Value.ref b] s) (F0 m 345 ls (.int v1 :: .ref x :: rest))) : W p l e room_1 s m #[Value.ref b] below meth c H locs ce sl (lw_Z below #[Value.ref b] s) (F0 m 339 ls (rest)) := by
  obtain ⟨hx, hb, hr, hml, hown, hts1, hX, hbl, hlocks, hgv⟩ := id C0
  have hbA : ¬ (fun q : Nat => s.heap.size ≤ q) b := Nat.not_le.mpr hbl
  refine lv_aload_n hx hb dL_law_339 rfl (lv_at hl 2 rfl) ?_
  refine lv_aload_n hx hb dL_law_340 rfl (lv_at hl 3 rfl) ?_
  refine lv_iload_n hx hb dL_law_341 rfl (lv_at hl 0 rfl) ?_
  refine lv_iconst (v := 1) hx hb dL_law_342 rfl ?_
  refine lv_iadd hx hb dL_law_343 ?_
  refine zz_i (v := nI (6 * k9 + 1)) (nI_add (6 * k9) 1) ?_
  refine va_sld hx hb hX hbl hbA hS (vp_in_nI (n := 6 * k9 + 1) (N := L9) (by omega) (by omega)) dL_law_344 ?_
  refine zz_i (v := v1) ((congrArg xs (nI_clamp (by omega))).trans h1) ?_
  exact k
theorem la_5_2 {p : Program} {e : Env} {s : State} {m : MethodId} {below : List Frame} {meth : Method} {c : Code} (l : Launch) {b L9 : Nat} {xs : Nat → Int32} (C0 : lw_At p s m meth c b L9 xs) {x k0 k9 ce sl : Nat} (hk9 : 6 * k9 + 6 ≤ L9) (hL9 : L9 ≤ 3072) {H : Heap} {locs : List Loc} {ls : Array Slot} {rest : List Value} (hS : va_S (fun q : Nat => s.heap.size ≤ q) s.heap H locs) (hl : lv_has ls 4 [(3, .int (nI (6 * k9))), (2, .ref k0), (1, .ref x), (0, .ref b)]) {v1 : Int32} (h1 : xs (6 * k9 + 1) = v1) (k : W p l e room_1 s m #[Value.ref b] below meth c H locs ce sl (lw_Z below #[Value.ref b] s) (F0 m 355 ls (.int v1 :: .ref k0 :: rest))) : W p l e room_1 s m #[Value.ref b] below meth c H locs ce sl (lw_Z below #[Value.ref b] s) (F0 m 349 ls (rest)) := by
  obtain ⟨hx, hb, hr, hml, hown, hts1, hX, hbl, hlocks, hgv⟩ := id C0
  have hbA : ¬ (fun q : Nat => s.heap.size ≤ q) b := Nat.not_le.mpr hbl
  refine lv_aload_n hx hb dL_law_349 rfl (lv_at hl 1 rfl) ?_
  refine lv_aload_n hx hb dL_law_350 rfl (lv_at hl 3 rfl) ?_
  refine lv_iload_n hx hb dL_law_351 rfl (lv_at hl 0 rfl) ?_
  refine lv_iconst (v := 1) hx hb dL_law_352 rfl ?_
  refine lv_iadd hx hb dL_law_353 ?_
  refine zz_i (v := nI (6 * k9 + 1)) (nI_add (6 * k9) 1) ?_
  refine va_sld hx hb hX hbl hbA hS (vp_in_nI (n := 6 * k9 + 1) (N := L9) (by omega) (by omega)) dL_law_354 ?_
  refine zz_i (v := v1) ((congrArg xs (nI_clamp (by omega))).trans h1) ?_
  exact k
theorem la_6_1 {p : Program} {e : Env} {s : State} {m : MethodId} {below : List Frame} {meth : Method} {c : Code} (l : Launch) {b L9 : Nat} {xs : Nat → Int32} (C0 : lw_At p s m meth c b L9 xs) {x k0 k9 ce sl : Nat} (hk9 : 6 * k9 + 6 ≤ L9) (hL9 : L9 ≤ 3072) {H : Heap} {locs : List Loc} {ls : Array Slot} {rest : List Value} (hS : va_S (fun q : Nat => s.heap.size ≤ q) s.heap H locs) (hl : lv_has ls 4 [(3, .int (nI (6 * k9))), (2, .ref k0), (1, .ref x), (0, .ref b)]) {v1 : Int32} {v2 : Int32} {v3 : Int32} {v4 : Int32} {v5 : Int32} (h1 : xs (6 * k9 + 1) = v1) (h2 : xs (6 * k9 + 2) = v2) (h3 : xs (6 * k9 + 3) = v3) (h4 : xs (6 * k9 + 4) = v4) (h5 : xs (6 * k9 + 5) = v5) (k : W p l e room_1 s m #[Value.ref b] below meth c H locs ce sl (lw_Z below #[Value.ref b] s) (F0 m 388 ls (.int v5 :: .int v4 :: .int v3 :: .int v2 :: .int v1 :: .ref x :: rest))) : W p l e room_1 s m #[Value.ref b] below meth c H locs ce sl (lw_Z below #[Value.ref b] s) (F0 m 362 ls (rest)) := by
  obtain ⟨hx, hb, hr, hml, hown, hts1, hX, hbl, hlocks, hgv⟩ := id C0
  have hbA : ¬ (fun q : Nat => s.heap.size ≤ q) b := Nat.not_le.mpr hbl
  refine lv_aload_n hx hb dL_law_362 rfl (lv_at hl 2 rfl) ?_
  refine lv_aload_n hx hb dL_law_363 rfl (lv_at hl 3 rfl) ?_
  refine lv_iload_n hx hb dL_law_364 rfl (lv_at hl 0 rfl) ?_
  refine lv_iconst (v := 1) hx hb dL_law_365 rfl ?_
  refine lv_iadd hx hb dL_law_366 ?_
  refine zz_i (v := nI (6 * k9 + 1)) (nI_add (6 * k9) 1) ?_
  refine va_sld hx hb hX hbl hbA hS (vp_in_nI (n := 6 * k9 + 1) (N := L9) (by omega) (by omega)) dL_law_367 ?_
  refine zz_i (v := v1) ((congrArg xs (nI_clamp (by omega))).trans h1) ?_
  refine lv_aload_n hx hb dL_law_368 rfl (lv_at hl 3 rfl) ?_
  refine lv_iload_n hx hb dL_law_369 rfl (lv_at hl 0 rfl) ?_
  refine lv_iconst (v := 2) hx hb dL_law_370 rfl ?_
  refine lv_iadd hx hb dL_law_371 ?_
  refine zz_i (v := nI (6 * k9 + 2)) (nI_add (6 * k9) 2) ?_
  refine va_sld hx hb hX hbl hbA hS (vp_in_nI (n := 6 * k9 + 2) (N := L9) (by omega) (by omega)) dL_law_372 ?_
  refine zz_i (v := v2) ((congrArg xs (nI_clamp (by omega))).trans h2) ?_
  refine lv_aload_n hx hb dL_law_373 rfl (lv_at hl 3 rfl) ?_
  refine lv_iload_n hx hb dL_law_374 rfl (lv_at hl 0 rfl) ?_
  refine lv_iconst (v := 3) hx hb dL_law_375 rfl ?_
  refine lv_iadd hx hb dL_law_376 ?_
  refine zz_i (v := nI (6 * k9 + 3)) (nI_add (6 * k9) 3) ?_
  refine va_sld hx hb hX hbl hbA hS (vp_in_nI (n := 6 * k9 + 3) (N := L9) (by omega) (by omega)) dL_law_377 ?_
  refine zz_i (v := v3) ((congrArg xs (nI_clamp (by omega))).trans h3) ?_
  refine lv_aload_n hx hb dL_law_378 rfl (lv_at hl 3 rfl) ?_
  refine lv_iload_n hx hb dL_law_379 rfl (lv_at hl 0 rfl) ?_
  refine lv_iconst (v := 4) hx hb dL_law_380 rfl ?_
  refine lv_iadd hx hb dL_law_381 ?_
  refine zz_i (v := nI (6 * k9 + 4)) (nI_add (6 * k9) 4) ?_
  refine va_sld hx hb hX hbl hbA hS (vp_in_nI (n := 6 * k9 + 4) (N := L9) (by omega) (by omega)) dL_law_382 ?_
  refine zz_i (v := v4) ((congrArg xs (nI_clamp (by omega))).trans h4) ?_
  refine lv_aload_n hx hb dL_law_383 rfl (lv_at hl 3 rfl) ?_
  refine lv_iload_n hx hb dL_law_384 rfl (lv_at hl 0 rfl) ?_
  refine lv_iconst (v := 5) hx hb dL_law_385 rfl ?_
  refine lv_iadd hx hb dL_law_386 ?_
  refine zz_i (v := nI (6 * k9 + 5)) (nI_add (6 * k9) 5) ?_
  refine va_sld hx hb hX hbl hbA hS (vp_in_nI (n := 6 * k9 + 5) (N := L9) (by omega) (by omega)) dL_law_387 ?_
  refine zz_i (v := v5) ((congrArg xs (nI_clamp (by omega))).trans h5) ?_
  exact k
theorem la_6_2 {p : Program} {e : Env} {s : State} {m : MethodId} {below : List Frame} {meth : Method} {c : Code} (l : Launch) {b L9 : Nat} {xs : Nat → Int32} (C0 : lw_At p s m meth c b L9 xs) {x k0 k9 ce sl : Nat} (hk9 : 6 * k9 + 6 ≤ L9) (hL9 : L9 ≤ 3072) {H : Heap} {locs : List Loc} {ls : Array Slot} {rest : List Value} (hS : va_S (fun q : Nat => s.heap.size ≤ q) s.heap H locs) (hl : lv_has ls 4 [(3, .int (nI (6 * k9))), (2, .ref k0), (1, .ref x), (0, .ref b)]) {v1 : Int32} {v2 : Int32} {v3 : Int32} {v4 : Int32} {v5 : Int32} (h1 : xs (6 * k9 + 1) = v1) (h2 : xs (6 * k9 + 2) = v2) (h3 : xs (6 * k9 + 3) = v3) (h4 : xs (6 * k9 + 4) = v4) (h5 : xs (6 * k9 + 5) = v5) (k : W p l e room_1 s m #[Value.ref b] below meth c H locs ce sl (lw_Z below #[Value.ref b] s) (F0 m 418 ls (.int v5 :: .int v4 :: .int v3 :: .int v2 :: .int v1 :: .ref k0 :: rest))) : W p l e room_1 s m #[Value.ref b] below meth c H locs ce sl (lw_Z below #[Value.ref b] s) (F0 m 392 ls (rest)) := by
  obtain ⟨hx, hb, hr, hml, hown, hts1, hX, hbl, hlocks, hgv⟩ := id C0
  have hbA : ¬ (fun q : Nat => s.heap.size ≤ q) b := Nat.not_le.mpr hbl
  refine lv_aload_n hx hb dL_law_392 rfl (lv_at hl 1 rfl) ?_
  refine lv_aload_n hx hb dL_law_393 rfl (lv_at hl 3 rfl) ?_
  refine lv_iload_n hx hb dL_law_394 rfl (lv_at hl 0 rfl) ?_
  refine lv_iconst (v := 1) hx hb dL_law_395 rfl ?_
  refine lv_iadd hx hb dL_law_396 ?_
  refine zz_i (v := nI (6 * k9 + 1)) (nI_add (6 * k9) 1) ?_
  refine va_sld hx hb hX hbl hbA hS (vp_in_nI (n := 6 * k9 + 1) (N := L9) (by omega) (by omega)) dL_law_397 ?_
  refine zz_i (v := v1) ((congrArg xs (nI_clamp (by omega))).trans h1) ?_
  refine lv_aload_n hx hb dL_law_398 rfl (lv_at hl 3 rfl) ?_
  refine lv_iload_n hx hb dL_law_399 rfl (lv_at hl 0 rfl) ?_
  refine lv_iconst (v := 2) hx hb dL_law_400 rfl ?_
  refine lv_iadd hx hb dL_law_401 ?_
  refine zz_i (v := nI (6 * k9 + 2)) (nI_add (6 * k9) 2) ?_
  refine va_sld hx hb hX hbl hbA hS (vp_in_nI (n := 6 * k9 + 2) (N := L9) (by omega) (by omega)) dL_law_402 ?_
  refine zz_i (v := v2) ((congrArg xs (nI_clamp (by omega))).trans h2) ?_
  refine lv_aload_n hx hb dL_law_403 rfl (lv_at hl 3 rfl) ?_
  refine lv_iload_n hx hb dL_law_404 rfl (lv_at hl 0 rfl) ?_
  refine lv_iconst (v := 3) hx hb dL_law_405 rfl ?_
  refine lv_iadd hx hb dL_law_406 ?_
  refine zz_i (v := nI (6 * k9 + 3)) (nI_add (6 * k9) 3) ?_
  refine va_sld hx hb hX hbl hbA hS (vp_in_nI (n := 6 * k9 + 3) (N := L9) (by omega) (by omega)) dL_law_407 ?_
  refine zz_i (v := v3) ((congrArg xs (nI_clamp (by omega))).trans h3) ?_
  refine lv_aload_n hx hb dL_law_408 rfl (lv_at hl 3 rfl) ?_
  refine lv_iload_n hx hb dL_law_409 rfl (lv_at hl 0 rfl) ?_
  refine lv_iconst (v := 4) hx hb dL_law_410 rfl ?_
  refine lv_iadd hx hb dL_law_411 ?_
  refine zz_i (v := nI (6 * k9 + 4)) (nI_add (6 * k9) 4) ?_
  refine va_sld hx hb hX hbl hbA hS (vp_in_nI (n := 6 * k9 + 4) (N := L9) (by omega) (by omega)) dL_law_412 ?_
  refine zz_i (v := v4) ((congrArg xs (nI_clamp (by omega))).trans h4) ?_
  refine lv_aload_n hx hb dL_law_413 rfl (lv_at hl 3 rfl) ?_
  refine lv_iload_n hx hb dL_law_414 rfl (lv_at hl 0 rfl) ?_
  refine lv_iconst (v := 5) hx hb dL_law_415 rfl ?_
  refine lv_iadd hx hb dL_law_416 ?_
  refine zz_i (v := nI (6 * k9 + 5)) (nI_add (6 * k9) 5) ?_
  refine va_sld hx hb hX hbl hbA hS (vp_in_nI (n := 6 * k9 + 5) (N := L9) (by omega) (by omega)) dL_law_417 ?_
  refine zz_i (v := v5) ((congrArg xs (nI_clamp (by omega))).trans h5) ?_
  exact k
theorem la_7_1 {p : Program} {e : Env} {s : State} {m : MethodId} {below : List Frame} {meth : Method} {c : Code} (l : Launch) {b L9 : Nat} {xs : Nat → Int32} (C0 : lw_At p s m meth c b L9 xs) {x k0 k9 ce sl : Nat} (hk9 : 6 * k9 + 6 ≤ L9) (hL9 : L9 ≤ 3072) {H : Heap} {locs : List Loc} {ls : Array Slot} {rest : List Value} (hS : va_S (fun q : Nat => s.heap.size ≤ q) s.heap H locs) (hl : lv_has ls 4 [(3, .int (nI (6 * k9))), (2, .ref k0), (1, .ref x), (0, .ref b)]) {v1 : Int32} (h1 : xs (6 * k9 + 1) = v1) (k : W p l e room_1 s m #[Value.ref b] below meth c H locs ce sl (lw_Z below #[Value.ref b] s) (F0 m 431 ls (.int v1 :: .ref x :: rest))) : W p l e room_1 s m #[Value.ref b] below meth c H locs ce sl (lw_Z below #[Value.ref b] s) (F0 m 425 ls (rest)) := by
  obtain ⟨hx, hb, hr, hml, hown, hts1, hX, hbl, hlocks, hgv⟩ := id C0
  have hbA : ¬ (fun q : Nat => s.heap.size ≤ q) b := Nat.not_le.mpr hbl
  refine lv_aload_n hx hb dL_law_425 rfl (lv_at hl 2 rfl) ?_
  refine lv_aload_n hx hb dL_law_426 rfl (lv_at hl 3 rfl) ?_
  refine lv_iload_n hx hb dL_law_427 rfl (lv_at hl 0 rfl) ?_
  refine lv_iconst (v := 1) hx hb dL_law_428 rfl ?_
  refine lv_iadd hx hb dL_law_429 ?_
  refine zz_i (v := nI (6 * k9 + 1)) (nI_add (6 * k9) 1) ?_
  refine va_sld hx hb hX hbl hbA hS (vp_in_nI (n := 6 * k9 + 1) (N := L9) (by omega) (by omega)) dL_law_430 ?_
  refine zz_i (v := v1) ((congrArg xs (nI_clamp (by omega))).trans h1) ?_
  exact k
theorem la_7_2 {p : Program} {e : Env} {s : State} {m : MethodId} {below : List Frame} {meth : Method} {c : Code} (l : Launch) {b L9 : Nat} {xs : Nat → Int32} (C0 : lw_At p s m meth c b L9 xs) {x k0 k9 ce sl : Nat} (hk9 : 6 * k9 + 6 ≤ L9) (hL9 : L9 ≤ 3072) {H : Heap} {locs : List Loc} {ls : Array Slot} {rest : List Value} (hS : va_S (fun q : Nat => s.heap.size ≤ q) s.heap H locs) (hl : lv_has ls 4 [(3, .int (nI (6 * k9))), (2, .ref k0), (1, .ref x), (0, .ref b)]) {v1 : Int32} (h1 : xs (6 * k9 + 1) = v1) (k : W p l e room_1 s m #[Value.ref b] below meth c H locs ce sl (lw_Z below #[Value.ref b] s) (F0 m 441 ls (.int v1 :: .ref k0 :: rest))) : W p l e room_1 s m #[Value.ref b] below meth c H locs ce sl (lw_Z below #[Value.ref b] s) (F0 m 435 ls (rest)) := by
  obtain ⟨hx, hb, hr, hml, hown, hts1, hX, hbl, hlocks, hgv⟩ := id C0
  have hbA : ¬ (fun q : Nat => s.heap.size ≤ q) b := Nat.not_le.mpr hbl
  refine lv_aload_n hx hb dL_law_435 rfl (lv_at hl 1 rfl) ?_
  refine lv_aload_n hx hb dL_law_436 rfl (lv_at hl 3 rfl) ?_
  refine lv_iload_n hx hb dL_law_437 rfl (lv_at hl 0 rfl) ?_
  refine lv_iconst (v := 1) hx hb dL_law_438 rfl ?_
  refine lv_iadd hx hb dL_law_439 ?_
  refine zz_i (v := nI (6 * k9 + 1)) (nI_add (6 * k9) 1) ?_
  refine va_sld hx hb hX hbl hbA hS (vp_in_nI (n := 6 * k9 + 1) (N := L9) (by omega) (by omega)) dL_law_440 ?_
  refine zz_i (v := v1) ((congrArg xs (nI_clamp (by omega))).trans h1) ?_
  exact k
theorem la_8_1 {p : Program} {e : Env} {s : State} {m : MethodId} {below : List Frame} {meth : Method} {c : Code} (l : Launch) {b L9 : Nat} {xs : Nat → Int32} (C0 : lw_At p s m meth c b L9 xs) {x k0 k9 ce sl : Nat} (hk9 : 6 * k9 + 6 ≤ L9) (hL9 : L9 ≤ 3072) {H : Heap} {locs : List Loc} {ls : Array Slot} {rest : List Value} (hS : va_S (fun q : Nat => s.heap.size ≤ q) s.heap H locs) (hl : lv_has ls 4 [(3, .int (nI (6 * k9))), (2, .ref k0), (1, .ref x), (0, .ref b)]) {v1 : Int32} {v2 : Int32} (h1 : xs (6 * k9 + 1) = v1) (h2 : xs (6 * k9 + 2) = v2) (k : W p l e room_1 s m #[Value.ref b] below meth c H locs ce sl (lw_Z below #[Value.ref b] s) (F0 m 459 ls (.int v2 :: .int v1 :: .ref x :: rest))) : W p l e room_1 s m #[Value.ref b] below meth c H locs ce sl (lw_Z below #[Value.ref b] s) (F0 m 448 ls (rest)) := by
  obtain ⟨hx, hb, hr, hml, hown, hts1, hX, hbl, hlocks, hgv⟩ := id C0
  have hbA : ¬ (fun q : Nat => s.heap.size ≤ q) b := Nat.not_le.mpr hbl
  refine lv_aload_n hx hb dL_law_448 rfl (lv_at hl 2 rfl) ?_
  refine lv_aload_n hx hb dL_law_449 rfl (lv_at hl 3 rfl) ?_
  refine lv_iload_n hx hb dL_law_450 rfl (lv_at hl 0 rfl) ?_
  refine lv_iconst (v := 1) hx hb dL_law_451 rfl ?_
  refine lv_iadd hx hb dL_law_452 ?_
  refine zz_i (v := nI (6 * k9 + 1)) (nI_add (6 * k9) 1) ?_
  refine va_sld hx hb hX hbl hbA hS (vp_in_nI (n := 6 * k9 + 1) (N := L9) (by omega) (by omega)) dL_law_453 ?_
  refine zz_i (v := v1) ((congrArg xs (nI_clamp (by omega))).trans h1) ?_
  refine lv_aload_n hx hb dL_law_454 rfl (lv_at hl 3 rfl) ?_
  refine lv_iload_n hx hb dL_law_455 rfl (lv_at hl 0 rfl) ?_
  refine lv_iconst (v := 2) hx hb dL_law_456 rfl ?_
  refine lv_iadd hx hb dL_law_457 ?_
  refine zz_i (v := nI (6 * k9 + 2)) (nI_add (6 * k9) 2) ?_
  refine va_sld hx hb hX hbl hbA hS (vp_in_nI (n := 6 * k9 + 2) (N := L9) (by omega) (by omega)) dL_law_458 ?_
  refine zz_i (v := v2) ((congrArg xs (nI_clamp (by omega))).trans h2) ?_
  exact k
theorem la_8_2 {p : Program} {e : Env} {s : State} {m : MethodId} {below : List Frame} {meth : Method} {c : Code} (l : Launch) {b L9 : Nat} {xs : Nat → Int32} (C0 : lw_At p s m meth c b L9 xs) {x k0 k9 ce sl : Nat} (hk9 : 6 * k9 + 6 ≤ L9) (hL9 : L9 ≤ 3072) {H : Heap} {locs : List Loc} {ls : Array Slot} {rest : List Value} (hS : va_S (fun q : Nat => s.heap.size ≤ q) s.heap H locs) (hl : lv_has ls 4 [(3, .int (nI (6 * k9))), (2, .ref k0), (1, .ref x), (0, .ref b)]) {v1 : Int32} {v2 : Int32} (h1 : xs (6 * k9 + 1) = v1) (h2 : xs (6 * k9 + 2) = v2) (k : W p l e room_1 s m #[Value.ref b] below meth c H locs ce sl (lw_Z below #[Value.ref b] s) (F0 m 474 ls (.int v2 :: .int v1 :: .ref k0 :: rest))) : W p l e room_1 s m #[Value.ref b] below meth c H locs ce sl (lw_Z below #[Value.ref b] s) (F0 m 463 ls (rest)) := by
  obtain ⟨hx, hb, hr, hml, hown, hts1, hX, hbl, hlocks, hgv⟩ := id C0
  have hbA : ¬ (fun q : Nat => s.heap.size ≤ q) b := Nat.not_le.mpr hbl
  refine lv_aload_n hx hb dL_law_463 rfl (lv_at hl 1 rfl) ?_
  refine lv_aload_n hx hb dL_law_464 rfl (lv_at hl 3 rfl) ?_
  refine lv_iload_n hx hb dL_law_465 rfl (lv_at hl 0 rfl) ?_
  refine lv_iconst (v := 1) hx hb dL_law_466 rfl ?_
  refine lv_iadd hx hb dL_law_467 ?_
  refine zz_i (v := nI (6 * k9 + 1)) (nI_add (6 * k9) 1) ?_
  refine va_sld hx hb hX hbl hbA hS (vp_in_nI (n := 6 * k9 + 1) (N := L9) (by omega) (by omega)) dL_law_468 ?_
  refine zz_i (v := v1) ((congrArg xs (nI_clamp (by omega))).trans h1) ?_
  refine lv_aload_n hx hb dL_law_469 rfl (lv_at hl 3 rfl) ?_
  refine lv_iload_n hx hb dL_law_470 rfl (lv_at hl 0 rfl) ?_
  refine lv_iconst (v := 2) hx hb dL_law_471 rfl ?_
  refine lv_iadd hx hb dL_law_472 ?_
  refine zz_i (v := nI (6 * k9 + 2)) (nI_add (6 * k9) 2) ?_
  refine va_sld hx hb hX hbl hbA hS (vp_in_nI (n := 6 * k9 + 2) (N := L9) (by omega) (by omega)) dL_law_473 ?_
  refine zz_i (v := v2) ((congrArg xs (nI_clamp (by omega))).trans h2) ?_
  exact k
theorem la_9_1 {p : Program} {e : Env} {s : State} {m : MethodId} {below : List Frame} {meth : Method} {c : Code} (l : Launch) {b L9 : Nat} {xs : Nat → Int32} (C0 : lw_At p s m meth c b L9 xs) {x k0 k9 ce sl : Nat} (hk9 : 6 * k9 + 6 ≤ L9) (hL9 : L9 ≤ 3072) {H : Heap} {locs : List Loc} {ls : Array Slot} {rest : List Value} (hS : va_S (fun q : Nat => s.heap.size ≤ q) s.heap H locs) (hl : lv_has ls 4 [(3, .int (nI (6 * k9))), (2, .ref k0), (1, .ref x), (0, .ref b)]) {v1 : Int32} {v2 : Int32} {v3 : Int32} (h1 : xs (6 * k9 + 1) = v1) (h2 : xs (6 * k9 + 2) = v2) (h3 : xs (6 * k9 + 3) = v3) (k : W p l e room_1 s m #[Value.ref b] below meth c H locs ce sl (lw_Z below #[Value.ref b] s) (F0 m 497 ls (.int v3 :: .int v2 :: .int v1 :: .ref x :: rest))) : W p l e room_1 s m #[Value.ref b] below meth c H locs ce sl (lw_Z below #[Value.ref b] s) (F0 m 481 ls (rest)) := by
  obtain ⟨hx, hb, hr, hml, hown, hts1, hX, hbl, hlocks, hgv⟩ := id C0
  have hbA : ¬ (fun q : Nat => s.heap.size ≤ q) b := Nat.not_le.mpr hbl
  refine lv_aload_n hx hb dL_law_481 rfl (lv_at hl 2 rfl) ?_
  refine lv_aload_n hx hb dL_law_482 rfl (lv_at hl 3 rfl) ?_
  refine lv_iload_n hx hb dL_law_483 rfl (lv_at hl 0 rfl) ?_
  refine lv_iconst (v := 1) hx hb dL_law_484 rfl ?_
  refine lv_iadd hx hb dL_law_485 ?_
  refine zz_i (v := nI (6 * k9 + 1)) (nI_add (6 * k9) 1) ?_
  refine va_sld hx hb hX hbl hbA hS (vp_in_nI (n := 6 * k9 + 1) (N := L9) (by omega) (by omega)) dL_law_486 ?_
  refine zz_i (v := v1) ((congrArg xs (nI_clamp (by omega))).trans h1) ?_
  refine lv_aload_n hx hb dL_law_487 rfl (lv_at hl 3 rfl) ?_
  refine lv_iload_n hx hb dL_law_488 rfl (lv_at hl 0 rfl) ?_
  refine lv_iconst (v := 2) hx hb dL_law_489 rfl ?_
  refine lv_iadd hx hb dL_law_490 ?_
  refine zz_i (v := nI (6 * k9 + 2)) (nI_add (6 * k9) 2) ?_
  refine va_sld hx hb hX hbl hbA hS (vp_in_nI (n := 6 * k9 + 2) (N := L9) (by omega) (by omega)) dL_law_491 ?_
  refine zz_i (v := v2) ((congrArg xs (nI_clamp (by omega))).trans h2) ?_
  refine lv_aload_n hx hb dL_law_492 rfl (lv_at hl 3 rfl) ?_
  refine lv_iload_n hx hb dL_law_493 rfl (lv_at hl 0 rfl) ?_
  refine lv_iconst (v := 3) hx hb dL_law_494 rfl ?_
  refine lv_iadd hx hb dL_law_495 ?_
  refine zz_i (v := nI (6 * k9 + 3)) (nI_add (6 * k9) 3) ?_
  refine va_sld hx hb hX hbl hbA hS (vp_in_nI (n := 6 * k9 + 3) (N := L9) (by omega) (by omega)) dL_law_496 ?_
  refine zz_i (v := v3) ((congrArg xs (nI_clamp (by omega))).trans h3) ?_
  exact k
theorem la_9_2 {p : Program} {e : Env} {s : State} {m : MethodId} {below : List Frame} {meth : Method} {c : Code} (l : Launch) {b L9 : Nat} {xs : Nat → Int32} (C0 : lw_At p s m meth c b L9 xs) {x k0 k9 ce sl : Nat} (hk9 : 6 * k9 + 6 ≤ L9) (hL9 : L9 ≤ 3072) {H : Heap} {locs : List Loc} {ls : Array Slot} {rest : List Value} (hS : va_S (fun q : Nat => s.heap.size ≤ q) s.heap H locs) (hl : lv_has ls 4 [(3, .int (nI (6 * k9))), (2, .ref k0), (1, .ref x), (0, .ref b)]) {v1 : Int32} {v2 : Int32} {v3 : Int32} (h1 : xs (6 * k9 + 1) = v1) (h2 : xs (6 * k9 + 2) = v2) (h3 : xs (6 * k9 + 3) = v3) (k : W p l e room_1 s m #[Value.ref b] below meth c H locs ce sl (lw_Z below #[Value.ref b] s) (F0 m 516 ls (.int v3 :: .int v2 :: .int v1 :: .ref k0 :: rest))) : W p l e room_1 s m #[Value.ref b] below meth c H locs ce sl (lw_Z below #[Value.ref b] s) (F0 m 500 ls (rest)) := by
  obtain ⟨hx, hb, hr, hml, hown, hts1, hX, hbl, hlocks, hgv⟩ := id C0
  have hbA : ¬ (fun q : Nat => s.heap.size ≤ q) b := Nat.not_le.mpr hbl
  refine lv_aload_n hx hb dL_law_500 rfl (lv_at hl 1 rfl) ?_
  refine lv_aload_n hx hb dL_law_501 rfl (lv_at hl 3 rfl) ?_
  refine lv_iload_n hx hb dL_law_502 rfl (lv_at hl 0 rfl) ?_
  refine lv_iconst (v := 1) hx hb dL_law_503 rfl ?_
  refine lv_iadd hx hb dL_law_504 ?_
  refine zz_i (v := nI (6 * k9 + 1)) (nI_add (6 * k9) 1) ?_
  refine va_sld hx hb hX hbl hbA hS (vp_in_nI (n := 6 * k9 + 1) (N := L9) (by omega) (by omega)) dL_law_505 ?_
  refine zz_i (v := v1) ((congrArg xs (nI_clamp (by omega))).trans h1) ?_
  refine lv_aload_n hx hb dL_law_506 rfl (lv_at hl 3 rfl) ?_
  refine lv_iload_n hx hb dL_law_507 rfl (lv_at hl 0 rfl) ?_
  refine lv_iconst (v := 2) hx hb dL_law_508 rfl ?_
  refine lv_iadd hx hb dL_law_509 ?_
  refine zz_i (v := nI (6 * k9 + 2)) (nI_add (6 * k9) 2) ?_
  refine va_sld hx hb hX hbl hbA hS (vp_in_nI (n := 6 * k9 + 2) (N := L9) (by omega) (by omega)) dL_law_510 ?_
  refine zz_i (v := v2) ((congrArg xs (nI_clamp (by omega))).trans h2) ?_
  refine lv_aload_n hx hb dL_law_511 rfl (lv_at hl 3 rfl) ?_
  refine lv_iload_n hx hb dL_law_512 rfl (lv_at hl 0 rfl) ?_
  refine lv_iconst (v := 3) hx hb dL_law_513 rfl ?_
  refine lv_iadd hx hb dL_law_514 ?_
  refine zz_i (v := nI (6 * k9 + 3)) (nI_add (6 * k9) 3) ?_
  refine va_sld hx hb hX hbl hbA hS (vp_in_nI (n := 6 * k9 + 3) (N := L9) (by omega) (by omega)) dL_law_515 ?_
  refine zz_i (v := v3) ((congrArg xs (nI_clamp (by omega))).trans h3) ?_
  exact k
theorem la_10_1 {p : Program} {e : Env} {s : State} {m : MethodId} {below : List Frame} {meth : Method} {c : Code} (l : Launch) {b L9 : Nat} {xs : Nat → Int32} (C0 : lw_At p s m meth c b L9 xs) {x k0 k9 ce sl : Nat} (hk9 : 6 * k9 + 6 ≤ L9) (hL9 : L9 ≤ 3072) {H : Heap} {locs : List Loc} {ls : Array Slot} {rest : List Value} (hS : va_S (fun q : Nat => s.heap.size ≤ q) s.heap H locs) (hl : lv_has ls 4 [(3, .int (nI (6 * k9))), (2, .ref k0), (1, .ref x), (0, .ref b)]) {v1 : Int32} (h1 : xs (6 * k9 + 1) = v1) (k : W p l e room_1 s m #[Value.ref b] below meth c H locs ce sl (lw_Z below #[Value.ref b] s) (F0 m 530 ls (.int v1 :: .ref x :: rest))) : W p l e room_1 s m #[Value.ref b] below meth c H locs ce sl (lw_Z below #[Value.ref b] s) (F0 m 524 ls (rest)) := by
  obtain ⟨hx, hb, hr, hml, hown, hts1, hX, hbl, hlocks, hgv⟩ := id C0
  have hbA : ¬ (fun q : Nat => s.heap.size ≤ q) b := Nat.not_le.mpr hbl
  refine lv_aload_n hx hb dL_law_524 rfl (lv_at hl 2 rfl) ?_
  refine lv_aload_n hx hb dL_law_525 rfl (lv_at hl 3 rfl) ?_
  refine lv_iload_n hx hb dL_law_526 rfl (lv_at hl 0 rfl) ?_
  refine lv_iconst (v := 1) hx hb dL_law_527 rfl ?_
  refine lv_iadd hx hb dL_law_528 ?_
  refine zz_i (v := nI (6 * k9 + 1)) (nI_add (6 * k9) 1) ?_
  refine va_sld hx hb hX hbl hbA hS (vp_in_nI (n := 6 * k9 + 1) (N := L9) (by omega) (by omega)) dL_law_529 ?_
  refine zz_i (v := v1) ((congrArg xs (nI_clamp (by omega))).trans h1) ?_
  exact k
theorem la_10_2 {p : Program} {e : Env} {s : State} {m : MethodId} {below : List Frame} {meth : Method} {c : Code} (l : Launch) {b L9 : Nat} {xs : Nat → Int32} (C0 : lw_At p s m meth c b L9 xs) {x k0 k9 ce sl : Nat} (hk9 : 6 * k9 + 6 ≤ L9) (hL9 : L9 ≤ 3072) {H : Heap} {locs : List Loc} {ls : Array Slot} {rest : List Value} (hS : va_S (fun q : Nat => s.heap.size ≤ q) s.heap H locs) (hl : lv_has ls 4 [(3, .int (nI (6 * k9))), (2, .ref k0), (1, .ref x), (0, .ref b)]) {v1 : Int32} (h1 : xs (6 * k9 + 1) = v1) (k : W p l e room_1 s m #[Value.ref b] below meth c H locs ce sl (lw_Z below #[Value.ref b] s) (F0 m 540 ls (.int v1 :: .ref k0 :: rest))) : W p l e room_1 s m #[Value.ref b] below meth c H locs ce sl (lw_Z below #[Value.ref b] s) (F0 m 534 ls (rest)) := by
  obtain ⟨hx, hb, hr, hml, hown, hts1, hX, hbl, hlocks, hgv⟩ := id C0
  have hbA : ¬ (fun q : Nat => s.heap.size ≤ q) b := Nat.not_le.mpr hbl
  refine lv_aload_n hx hb dL_law_534 rfl (lv_at hl 1 rfl) ?_
  refine lv_aload_n hx hb dL_law_535 rfl (lv_at hl 3 rfl) ?_
  refine lv_iload_n hx hb dL_law_536 rfl (lv_at hl 0 rfl) ?_
  refine lv_iconst (v := 1) hx hb dL_law_537 rfl ?_
  refine lv_iadd hx hb dL_law_538 ?_
  refine zz_i (v := nI (6 * k9 + 1)) (nI_add (6 * k9) 1) ?_
  refine va_sld hx hb hX hbl hbA hS (vp_in_nI (n := 6 * k9 + 1) (N := L9) (by omega) (by omega)) dL_law_539 ?_
  refine zz_i (v := v1) ((congrArg xs (nI_clamp (by omega))).trans h1) ?_
  exact k
theorem la_11_1 {p : Program} {e : Env} {s : State} {m : MethodId} {below : List Frame} {meth : Method} {c : Code} (l : Launch) {b L9 : Nat} {xs : Nat → Int32} (C0 : lw_At p s m meth c b L9 xs) {x k0 k9 ce sl : Nat} (hk9 : 6 * k9 + 6 ≤ L9) (hL9 : L9 ≤ 3072) {H : Heap} {locs : List Loc} {ls : Array Slot} {rest : List Value} (hS : va_S (fun q : Nat => s.heap.size ≤ q) s.heap H locs) (hl : lv_has ls 4 [(3, .int (nI (6 * k9))), (2, .ref k0), (1, .ref x), (0, .ref b)]) {v1 : Int32} {v2 : Int32} (h1 : xs (6 * k9 + 1) = v1) (h2 : xs (6 * k9 + 2) = v2) (k : W p l e room_1 s m #[Value.ref b] below meth c H locs ce sl (lw_Z below #[Value.ref b] s) (F0 m 558 ls (.int v2 :: .int v1 :: .ref x :: rest))) : W p l e room_1 s m #[Value.ref b] below meth c H locs ce sl (lw_Z below #[Value.ref b] s) (F0 m 547 ls (rest)) := by
  obtain ⟨hx, hb, hr, hml, hown, hts1, hX, hbl, hlocks, hgv⟩ := id C0
  have hbA : ¬ (fun q : Nat => s.heap.size ≤ q) b := Nat.not_le.mpr hbl
  refine lv_aload_n hx hb dL_law_547 rfl (lv_at hl 2 rfl) ?_
  refine lv_aload_n hx hb dL_law_548 rfl (lv_at hl 3 rfl) ?_
  refine lv_iload_n hx hb dL_law_549 rfl (lv_at hl 0 rfl) ?_
  refine lv_iconst (v := 1) hx hb dL_law_550 rfl ?_
  refine lv_iadd hx hb dL_law_551 ?_
  refine zz_i (v := nI (6 * k9 + 1)) (nI_add (6 * k9) 1) ?_
  refine va_sld hx hb hX hbl hbA hS (vp_in_nI (n := 6 * k9 + 1) (N := L9) (by omega) (by omega)) dL_law_552 ?_
  refine zz_i (v := v1) ((congrArg xs (nI_clamp (by omega))).trans h1) ?_
  refine lv_aload_n hx hb dL_law_553 rfl (lv_at hl 3 rfl) ?_
  refine lv_iload_n hx hb dL_law_554 rfl (lv_at hl 0 rfl) ?_
  refine lv_iconst (v := 2) hx hb dL_law_555 rfl ?_
  refine lv_iadd hx hb dL_law_556 ?_
  refine zz_i (v := nI (6 * k9 + 2)) (nI_add (6 * k9) 2) ?_
  refine va_sld hx hb hX hbl hbA hS (vp_in_nI (n := 6 * k9 + 2) (N := L9) (by omega) (by omega)) dL_law_557 ?_
  refine zz_i (v := v2) ((congrArg xs (nI_clamp (by omega))).trans h2) ?_
  exact k
theorem la_11_2 {p : Program} {e : Env} {s : State} {m : MethodId} {below : List Frame} {meth : Method} {c : Code} (l : Launch) {b L9 : Nat} {xs : Nat → Int32} (C0 : lw_At p s m meth c b L9 xs) {x k0 k9 ce sl : Nat} (hk9 : 6 * k9 + 6 ≤ L9) (hL9 : L9 ≤ 3072) {H : Heap} {locs : List Loc} {ls : Array Slot} {rest : List Value} (hS : va_S (fun q : Nat => s.heap.size ≤ q) s.heap H locs) (hl : lv_has ls 4 [(3, .int (nI (6 * k9))), (2, .ref k0), (1, .ref x), (0, .ref b)]) {v1 : Int32} {v2 : Int32} (h1 : xs (6 * k9 + 1) = v1) (h2 : xs (6 * k9 + 2) = v2) (k : W p l e room_1 s m #[Value.ref b] below meth c H locs ce sl (lw_Z below #[Value.ref b] s) (F0 m 573 ls (.int v2 :: .int v1 :: .ref k0 :: rest))) : W p l e room_1 s m #[Value.ref b] below meth c H locs ce sl (lw_Z below #[Value.ref b] s) (F0 m 562 ls (rest)) := by
  obtain ⟨hx, hb, hr, hml, hown, hts1, hX, hbl, hlocks, hgv⟩ := id C0
  have hbA : ¬ (fun q : Nat => s.heap.size ≤ q) b := Nat.not_le.mpr hbl
  refine lv_aload_n hx hb dL_law_562 rfl (lv_at hl 1 rfl) ?_
  refine lv_aload_n hx hb dL_law_563 rfl (lv_at hl 3 rfl) ?_
  refine lv_iload_n hx hb dL_law_564 rfl (lv_at hl 0 rfl) ?_
  refine lv_iconst (v := 1) hx hb dL_law_565 rfl ?_
  refine lv_iadd hx hb dL_law_566 ?_
  refine zz_i (v := nI (6 * k9 + 1)) (nI_add (6 * k9) 1) ?_
  refine va_sld hx hb hX hbl hbA hS (vp_in_nI (n := 6 * k9 + 1) (N := L9) (by omega) (by omega)) dL_law_567 ?_
  refine zz_i (v := v1) ((congrArg xs (nI_clamp (by omega))).trans h1) ?_
  refine lv_aload_n hx hb dL_law_568 rfl (lv_at hl 3 rfl) ?_
  refine lv_iload_n hx hb dL_law_569 rfl (lv_at hl 0 rfl) ?_
  refine lv_iconst (v := 2) hx hb dL_law_570 rfl ?_
  refine lv_iadd hx hb dL_law_571 ?_
  refine zz_i (v := nI (6 * k9 + 2)) (nI_add (6 * k9) 2) ?_
  refine va_sld hx hb hX hbl hbA hS (vp_in_nI (n := 6 * k9 + 2) (N := L9) (by omega) (by omega)) dL_law_572 ?_
  refine zz_i (v := v2) ((congrArg xs (nI_clamp (by omega))).trans h2) ?_
  exact k
theorem la_12_1 {p : Program} {e : Env} {s : State} {m : MethodId} {below : List Frame} {meth : Method} {c : Code} (l : Launch) {b L9 : Nat} {xs : Nat → Int32} (C0 : lw_At p s m meth c b L9 xs) {x k0 k9 ce sl : Nat} (hk9 : 6 * k9 + 6 ≤ L9) (hL9 : L9 ≤ 3072) {H : Heap} {locs : List Loc} {ls : Array Slot} {rest : List Value} (hS : va_S (fun q : Nat => s.heap.size ≤ q) s.heap H locs) (hl : lv_has ls 4 [(3, .int (nI (6 * k9))), (2, .ref k0), (1, .ref x), (0, .ref b)]) (k : W p l e room_1 s m #[Value.ref b] below meth c H locs ce sl (lw_Z below #[Value.ref b] s) (F0 m 581 ls (.ref x :: rest))) : W p l e room_1 s m #[Value.ref b] below meth c H locs ce sl (lw_Z below #[Value.ref b] s) (F0 m 580 ls (rest)) := by
  obtain ⟨hx, hb, hr, hml, hown, hts1, hX, hbl, hlocks, hgv⟩ := id C0
  have hbA : ¬ (fun q : Nat => s.heap.size ≤ q) b := Nat.not_le.mpr hbl
  refine lv_aload_n hx hb dL_law_580 rfl (lv_at hl 2 rfl) ?_
  exact k
theorem la_12_2 {p : Program} {e : Env} {s : State} {m : MethodId} {below : List Frame} {meth : Method} {c : Code} (l : Launch) {b L9 : Nat} {xs : Nat → Int32} (C0 : lw_At p s m meth c b L9 xs) {x k0 k9 ce sl : Nat} (hk9 : 6 * k9 + 6 ≤ L9) (hL9 : L9 ≤ 3072) {H : Heap} {locs : List Loc} {ls : Array Slot} {rest : List Value} (hS : va_S (fun q : Nat => s.heap.size ≤ q) s.heap H locs) (hl : lv_has ls 4 [(3, .int (nI (6 * k9))), (2, .ref k0), (1, .ref x), (0, .ref b)]) (k : W p l e room_1 s m #[Value.ref b] below meth c H locs ce sl (lw_Z below #[Value.ref b] s) (F0 m 586 ls (.ref k0 :: rest))) : W p l e room_1 s m #[Value.ref b] below meth c H locs ce sl (lw_Z below #[Value.ref b] s) (F0 m 585 ls (rest)) := by
  obtain ⟨hx, hb, hr, hml, hown, hts1, hX, hbl, hlocks, hgv⟩ := id C0
  have hbA : ¬ (fun q : Nat => s.heap.size ≤ q) b := Nat.not_le.mpr hbl
  refine lv_aload_n hx hb dL_law_585 rfl (lv_at hl 1 rfl) ?_
  exact k
theorem la_13_1 {p : Program} {e : Env} {s : State} {m : MethodId} {below : List Frame} {meth : Method} {c : Code} (l : Launch) {b L9 : Nat} {xs : Nat → Int32} (C0 : lw_At p s m meth c b L9 xs) {x k0 k9 ce sl : Nat} (hk9 : 6 * k9 + 6 ≤ L9) (hL9 : L9 ≤ 3072) {H : Heap} {locs : List Loc} {ls : Array Slot} {rest : List Value} (hS : va_S (fun q : Nat => s.heap.size ≤ q) s.heap H locs) (hl : lv_has ls 4 [(3, .int (nI (6 * k9))), (2, .ref k0), (1, .ref x), (0, .ref b)]) {v1 : Int32} (h1 : xs (6 * k9 + 1) = v1) (k : W p l e room_1 s m #[Value.ref b] below meth c H locs ce sl (lw_Z below #[Value.ref b] s) (F0 m 599 ls (.int v1 :: .ref x :: rest))) : W p l e room_1 s m #[Value.ref b] below meth c H locs ce sl (lw_Z below #[Value.ref b] s) (F0 m 593 ls (rest)) := by
  obtain ⟨hx, hb, hr, hml, hown, hts1, hX, hbl, hlocks, hgv⟩ := id C0
  have hbA : ¬ (fun q : Nat => s.heap.size ≤ q) b := Nat.not_le.mpr hbl
  refine lv_aload_n hx hb dL_law_593 rfl (lv_at hl 2 rfl) ?_
  refine lv_aload_n hx hb dL_law_594 rfl (lv_at hl 3 rfl) ?_
  refine lv_iload_n hx hb dL_law_595 rfl (lv_at hl 0 rfl) ?_
  refine lv_iconst (v := 1) hx hb dL_law_596 rfl ?_
  refine lv_iadd hx hb dL_law_597 ?_
  refine zz_i (v := nI (6 * k9 + 1)) (nI_add (6 * k9) 1) ?_
  refine va_sld hx hb hX hbl hbA hS (vp_in_nI (n := 6 * k9 + 1) (N := L9) (by omega) (by omega)) dL_law_598 ?_
  refine zz_i (v := v1) ((congrArg xs (nI_clamp (by omega))).trans h1) ?_
  exact k
theorem la_13_2 {p : Program} {e : Env} {s : State} {m : MethodId} {below : List Frame} {meth : Method} {c : Code} (l : Launch) {b L9 : Nat} {xs : Nat → Int32} (C0 : lw_At p s m meth c b L9 xs) {x k0 k9 ce sl : Nat} (hk9 : 6 * k9 + 6 ≤ L9) (hL9 : L9 ≤ 3072) {H : Heap} {locs : List Loc} {ls : Array Slot} {rest : List Value} (hS : va_S (fun q : Nat => s.heap.size ≤ q) s.heap H locs) (hl : lv_has ls 4 [(3, .int (nI (6 * k9))), (2, .ref k0), (1, .ref x), (0, .ref b)]) {v1 : Int32} (h1 : xs (6 * k9 + 1) = v1) (k : W p l e room_1 s m #[Value.ref b] below meth c H locs ce sl (lw_Z below #[Value.ref b] s) (F0 m 609 ls (.int v1 :: .ref k0 :: rest))) : W p l e room_1 s m #[Value.ref b] below meth c H locs ce sl (lw_Z below #[Value.ref b] s) (F0 m 603 ls (rest)) := by
  obtain ⟨hx, hb, hr, hml, hown, hts1, hX, hbl, hlocks, hgv⟩ := id C0
  have hbA : ¬ (fun q : Nat => s.heap.size ≤ q) b := Nat.not_le.mpr hbl
  refine lv_aload_n hx hb dL_law_603 rfl (lv_at hl 1 rfl) ?_
  refine lv_aload_n hx hb dL_law_604 rfl (lv_at hl 3 rfl) ?_
  refine lv_iload_n hx hb dL_law_605 rfl (lv_at hl 0 rfl) ?_
  refine lv_iconst (v := 1) hx hb dL_law_606 rfl ?_
  refine lv_iadd hx hb dL_law_607 ?_
  refine zz_i (v := nI (6 * k9 + 1)) (nI_add (6 * k9) 1) ?_
  refine va_sld hx hb hX hbl hbA hS (vp_in_nI (n := 6 * k9 + 1) (N := L9) (by omega) (by omega)) dL_law_608 ?_
  refine zz_i (v := v1) ((congrArg xs (nI_clamp (by omega))).trans h1) ?_
  exact k
theorem la_14_1 {p : Program} {e : Env} {s : State} {m : MethodId} {below : List Frame} {meth : Method} {c : Code} (l : Launch) {b L9 : Nat} {xs : Nat → Int32} (C0 : lw_At p s m meth c b L9 xs) {x k0 k9 ce sl : Nat} (hk9 : 6 * k9 + 6 ≤ L9) (hL9 : L9 ≤ 3072) {H : Heap} {locs : List Loc} {ls : Array Slot} {rest : List Value} (hS : va_S (fun q : Nat => s.heap.size ≤ q) s.heap H locs) (hl : lv_has ls 4 [(3, .int (nI (6 * k9))), (2, .ref k0), (1, .ref x), (0, .ref b)]) (k : W p l e room_1 s m #[Value.ref b] below meth c H locs ce sl (lw_Z below #[Value.ref b] s) (F0 m 617 ls (.ref x :: rest))) : W p l e room_1 s m #[Value.ref b] below meth c H locs ce sl (lw_Z below #[Value.ref b] s) (F0 m 616 ls (rest)) := by
  obtain ⟨hx, hb, hr, hml, hown, hts1, hX, hbl, hlocks, hgv⟩ := id C0
  have hbA : ¬ (fun q : Nat => s.heap.size ≤ q) b := Nat.not_le.mpr hbl
  refine lv_aload_n hx hb dL_law_616 rfl (lv_at hl 2 rfl) ?_
  exact k
theorem la_14_2 {p : Program} {e : Env} {s : State} {m : MethodId} {below : List Frame} {meth : Method} {c : Code} (l : Launch) {b L9 : Nat} {xs : Nat → Int32} (C0 : lw_At p s m meth c b L9 xs) {x k0 k9 ce sl : Nat} (hk9 : 6 * k9 + 6 ≤ L9) (hL9 : L9 ≤ 3072) {H : Heap} {locs : List Loc} {ls : Array Slot} {rest : List Value} (hS : va_S (fun q : Nat => s.heap.size ≤ q) s.heap H locs) (hl : lv_has ls 4 [(3, .int (nI (6 * k9))), (2, .ref k0), (1, .ref x), (0, .ref b)]) (k : W p l e room_1 s m #[Value.ref b] below meth c H locs ce sl (lw_Z below #[Value.ref b] s) (F0 m 622 ls (.ref k0 :: rest))) : W p l e room_1 s m #[Value.ref b] below meth c H locs ce sl (lw_Z below #[Value.ref b] s) (F0 m 621 ls (rest)) := by
  obtain ⟨hx, hb, hr, hml, hown, hts1, hX, hbl, hlocks, hgv⟩ := id C0
  have hbA : ¬ (fun q : Nat => s.heap.size ≤ q) b := Nat.not_le.mpr hbl
  refine lv_aload_n hx hb dL_law_621 rfl (lv_at hl 1 rfl) ?_
  exact k
theorem la_15_1 {p : Program} {e : Env} {s : State} {m : MethodId} {below : List Frame} {meth : Method} {c : Code} (l : Launch) {b L9 : Nat} {xs : Nat → Int32} (C0 : lw_At p s m meth c b L9 xs) {x k0 k9 ce sl : Nat} (hk9 : 6 * k9 + 6 ≤ L9) (hL9 : L9 ≤ 3072) {H : Heap} {locs : List Loc} {ls : Array Slot} {rest : List Value} (hS : va_S (fun q : Nat => s.heap.size ≤ q) s.heap H locs) (hl : lv_has ls 4 [(3, .int (nI (6 * k9))), (2, .ref k0), (1, .ref x), (0, .ref b)]) (k : W p l e room_1 s m #[Value.ref b] below meth c H locs ce sl (lw_Z below #[Value.ref b] s) (F0 m 630 ls (.ref x :: rest))) : W p l e room_1 s m #[Value.ref b] below meth c H locs ce sl (lw_Z below #[Value.ref b] s) (F0 m 629 ls (rest)) := by
  obtain ⟨hx, hb, hr, hml, hown, hts1, hX, hbl, hlocks, hgv⟩ := id C0
  have hbA : ¬ (fun q : Nat => s.heap.size ≤ q) b := Nat.not_le.mpr hbl
  refine lv_aload_n hx hb dL_law_629 rfl (lv_at hl 2 rfl) ?_
  exact k
theorem la_15_2 {p : Program} {e : Env} {s : State} {m : MethodId} {below : List Frame} {meth : Method} {c : Code} (l : Launch) {b L9 : Nat} {xs : Nat → Int32} (C0 : lw_At p s m meth c b L9 xs) {x k0 k9 ce sl : Nat} (hk9 : 6 * k9 + 6 ≤ L9) (hL9 : L9 ≤ 3072) {H : Heap} {locs : List Loc} {ls : Array Slot} {rest : List Value} (hS : va_S (fun q : Nat => s.heap.size ≤ q) s.heap H locs) (hl : lv_has ls 4 [(3, .int (nI (6 * k9))), (2, .ref k0), (1, .ref x), (0, .ref b)]) (k : W p l e room_1 s m #[Value.ref b] below meth c H locs ce sl (lw_Z below #[Value.ref b] s) (F0 m 635 ls (.ref k0 :: rest))) : W p l e room_1 s m #[Value.ref b] below meth c H locs ce sl (lw_Z below #[Value.ref b] s) (F0 m 634 ls (rest)) := by
  obtain ⟨hx, hb, hr, hml, hown, hts1, hX, hbl, hlocks, hgv⟩ := id C0
  have hbA : ¬ (fun q : Nat => s.heap.size ≤ q) b := Nat.not_le.mpr hbl
  refine lv_aload_n hx hb dL_law_634 rfl (lv_at hl 1 rfl) ?_
  exact k
theorem la_16_1 {p : Program} {e : Env} {s : State} {m : MethodId} {below : List Frame} {meth : Method} {c : Code} (l : Launch) {b L9 : Nat} {xs : Nat → Int32} (C0 : lw_At p s m meth c b L9 xs) {x k0 k9 ce sl : Nat} (hk9 : 6 * k9 + 6 ≤ L9) (hL9 : L9 ≤ 3072) {H : Heap} {locs : List Loc} {ls : Array Slot} {rest : List Value} (hS : va_S (fun q : Nat => s.heap.size ≤ q) s.heap H locs) (hl : lv_has ls 4 [(3, .int (nI (6 * k9))), (2, .ref k0), (1, .ref x), (0, .ref b)]) {v1 : Int32} {v2 : Int32} (h1 : xs (6 * k9 + 1) = v1) (h2 : xs (6 * k9 + 2) = v2) (k : W p l e room_1 s m #[Value.ref b] below meth c H locs ce sl (lw_Z below #[Value.ref b] s) (F0 m 653 ls (.int v2 :: .int v1 :: .ref x :: rest))) : W p l e room_1 s m #[Value.ref b] below meth c H locs ce sl (lw_Z below #[Value.ref b] s) (F0 m 642 ls (rest)) := by
  obtain ⟨hx, hb, hr, hml, hown, hts1, hX, hbl, hlocks, hgv⟩ := id C0
  have hbA : ¬ (fun q : Nat => s.heap.size ≤ q) b := Nat.not_le.mpr hbl
  refine lv_aload_n hx hb dL_law_642 rfl (lv_at hl 2 rfl) ?_
  refine lv_aload_n hx hb dL_law_643 rfl (lv_at hl 3 rfl) ?_
  refine lv_iload_n hx hb dL_law_644 rfl (lv_at hl 0 rfl) ?_
  refine lv_iconst (v := 1) hx hb dL_law_645 rfl ?_
  refine lv_iadd hx hb dL_law_646 ?_
  refine zz_i (v := nI (6 * k9 + 1)) (nI_add (6 * k9) 1) ?_
  refine va_sld hx hb hX hbl hbA hS (vp_in_nI (n := 6 * k9 + 1) (N := L9) (by omega) (by omega)) dL_law_647 ?_
  refine zz_i (v := v1) ((congrArg xs (nI_clamp (by omega))).trans h1) ?_
  refine lv_aload_n hx hb dL_law_648 rfl (lv_at hl 3 rfl) ?_
  refine lv_iload_n hx hb dL_law_649 rfl (lv_at hl 0 rfl) ?_
  refine lv_iconst (v := 2) hx hb dL_law_650 rfl ?_
  refine lv_iadd hx hb dL_law_651 ?_
  refine zz_i (v := nI (6 * k9 + 2)) (nI_add (6 * k9) 2) ?_
  refine va_sld hx hb hX hbl hbA hS (vp_in_nI (n := 6 * k9 + 2) (N := L9) (by omega) (by omega)) dL_law_652 ?_
  refine zz_i (v := v2) ((congrArg xs (nI_clamp (by omega))).trans h2) ?_
  exact k
theorem la_16_2 {p : Program} {e : Env} {s : State} {m : MethodId} {below : List Frame} {meth : Method} {c : Code} (l : Launch) {b L9 : Nat} {xs : Nat → Int32} (C0 : lw_At p s m meth c b L9 xs) {x k0 k9 ce sl : Nat} (hk9 : 6 * k9 + 6 ≤ L9) (hL9 : L9 ≤ 3072) {H : Heap} {locs : List Loc} {ls : Array Slot} {rest : List Value} (hS : va_S (fun q : Nat => s.heap.size ≤ q) s.heap H locs) (hl : lv_has ls 4 [(3, .int (nI (6 * k9))), (2, .ref k0), (1, .ref x), (0, .ref b)]) {v1 : Int32} {v2 : Int32} (h1 : xs (6 * k9 + 1) = v1) (h2 : xs (6 * k9 + 2) = v2) (k : W p l e room_1 s m #[Value.ref b] below meth c H locs ce sl (lw_Z below #[Value.ref b] s) (F0 m 668 ls (.int v2 :: .int v1 :: .ref k0 :: rest))) : W p l e room_1 s m #[Value.ref b] below meth c H locs ce sl (lw_Z below #[Value.ref b] s) (F0 m 657 ls (rest)) := by
  obtain ⟨hx, hb, hr, hml, hown, hts1, hX, hbl, hlocks, hgv⟩ := id C0
  have hbA : ¬ (fun q : Nat => s.heap.size ≤ q) b := Nat.not_le.mpr hbl
  refine lv_aload_n hx hb dL_law_657 rfl (lv_at hl 1 rfl) ?_
  refine lv_aload_n hx hb dL_law_658 rfl (lv_at hl 3 rfl) ?_
  refine lv_iload_n hx hb dL_law_659 rfl (lv_at hl 0 rfl) ?_
  refine lv_iconst (v := 1) hx hb dL_law_660 rfl ?_
  refine lv_iadd hx hb dL_law_661 ?_
  refine zz_i (v := nI (6 * k9 + 1)) (nI_add (6 * k9) 1) ?_
  refine va_sld hx hb hX hbl hbA hS (vp_in_nI (n := 6 * k9 + 1) (N := L9) (by omega) (by omega)) dL_law_662 ?_
  refine zz_i (v := v1) ((congrArg xs (nI_clamp (by omega))).trans h1) ?_
  refine lv_aload_n hx hb dL_law_663 rfl (lv_at hl 3 rfl) ?_
  refine lv_iload_n hx hb dL_law_664 rfl (lv_at hl 0 rfl) ?_
  refine lv_iconst (v := 2) hx hb dL_law_665 rfl ?_
  refine lv_iadd hx hb dL_law_666 ?_
  refine zz_i (v := nI (6 * k9 + 2)) (nI_add (6 * k9) 2) ?_
  refine va_sld hx hb hX hbl hbA hS (vp_in_nI (n := 6 * k9 + 2) (N := L9) (by omega) (by omega)) dL_law_667 ?_
  refine zz_i (v := v2) ((congrArg xs (nI_clamp (by omega))).trans h2) ?_
  exact k
theorem la_17_1 {p : Program} {e : Env} {s : State} {m : MethodId} {below : List Frame} {meth : Method} {c : Code} (l : Launch) {b L9 : Nat} {xs : Nat → Int32} (C0 : lw_At p s m meth c b L9 xs) {x k0 k9 ce sl : Nat} (hk9 : 6 * k9 + 6 ≤ L9) (hL9 : L9 ≤ 3072) {H : Heap} {locs : List Loc} {ls : Array Slot} {rest : List Value} (hS : va_S (fun q : Nat => s.heap.size ≤ q) s.heap H locs) (hl : lv_has ls 4 [(3, .int (nI (6 * k9))), (2, .ref k0), (1, .ref x), (0, .ref b)]) {v1 : Int32} {v2 : Int32} {v3 : Int32} (h1 : xs (6 * k9 + 1) = v1) (h2 : xs (6 * k9 + 2) = v2) (h3 : xs (6 * k9 + 3) = v3) (k : W p l e room_1 s m #[Value.ref b] below meth c H locs ce sl (lw_Z below #[Value.ref b] s) (F0 m 691 ls (.int v3 :: .int v2 :: .int v1 :: .ref x :: rest))) : W p l e room_1 s m #[Value.ref b] below meth c H locs ce sl (lw_Z below #[Value.ref b] s) (F0 m 675 ls (rest)) := by
  obtain ⟨hx, hb, hr, hml, hown, hts1, hX, hbl, hlocks, hgv⟩ := id C0
  have hbA : ¬ (fun q : Nat => s.heap.size ≤ q) b := Nat.not_le.mpr hbl
  refine lv_aload_n hx hb dL_law_675 rfl (lv_at hl 2 rfl) ?_
  refine lv_aload_n hx hb dL_law_676 rfl (lv_at hl 3 rfl) ?_
  refine lv_iload_n hx hb dL_law_677 rfl (lv_at hl 0 rfl) ?_
  refine lv_iconst (v := 1) hx hb dL_law_678 rfl ?_
  refine lv_iadd hx hb dL_law_679 ?_
  refine zz_i (v := nI (6 * k9 + 1)) (nI_add (6 * k9) 1) ?_
  refine va_sld hx hb hX hbl hbA hS (vp_in_nI (n := 6 * k9 + 1) (N := L9) (by omega) (by omega)) dL_law_680 ?_
  refine zz_i (v := v1) ((congrArg xs (nI_clamp (by omega))).trans h1) ?_
  refine lv_aload_n hx hb dL_law_681 rfl (lv_at hl 3 rfl) ?_
  refine lv_iload_n hx hb dL_law_682 rfl (lv_at hl 0 rfl) ?_
  refine lv_iconst (v := 2) hx hb dL_law_683 rfl ?_
  refine lv_iadd hx hb dL_law_684 ?_
  refine zz_i (v := nI (6 * k9 + 2)) (nI_add (6 * k9) 2) ?_
  refine va_sld hx hb hX hbl hbA hS (vp_in_nI (n := 6 * k9 + 2) (N := L9) (by omega) (by omega)) dL_law_685 ?_
  refine zz_i (v := v2) ((congrArg xs (nI_clamp (by omega))).trans h2) ?_
  refine lv_aload_n hx hb dL_law_686 rfl (lv_at hl 3 rfl) ?_
  refine lv_iload_n hx hb dL_law_687 rfl (lv_at hl 0 rfl) ?_
  refine lv_iconst (v := 3) hx hb dL_law_688 rfl ?_
  refine lv_iadd hx hb dL_law_689 ?_
  refine zz_i (v := nI (6 * k9 + 3)) (nI_add (6 * k9) 3) ?_
  refine va_sld hx hb hX hbl hbA hS (vp_in_nI (n := 6 * k9 + 3) (N := L9) (by omega) (by omega)) dL_law_690 ?_
  refine zz_i (v := v3) ((congrArg xs (nI_clamp (by omega))).trans h3) ?_
  exact k
theorem la_17_2 {p : Program} {e : Env} {s : State} {m : MethodId} {below : List Frame} {meth : Method} {c : Code} (l : Launch) {b L9 : Nat} {xs : Nat → Int32} (C0 : lw_At p s m meth c b L9 xs) {x k0 k9 ce sl : Nat} (hk9 : 6 * k9 + 6 ≤ L9) (hL9 : L9 ≤ 3072) {H : Heap} {locs : List Loc} {ls : Array Slot} {rest : List Value} (hS : va_S (fun q : Nat => s.heap.size ≤ q) s.heap H locs) (hl : lv_has ls 4 [(3, .int (nI (6 * k9))), (2, .ref k0), (1, .ref x), (0, .ref b)]) {v1 : Int32} {v2 : Int32} {v3 : Int32} (h1 : xs (6 * k9 + 1) = v1) (h2 : xs (6 * k9 + 2) = v2) (h3 : xs (6 * k9 + 3) = v3) (k : W p l e room_1 s m #[Value.ref b] below meth c H locs ce sl (lw_Z below #[Value.ref b] s) (F0 m 711 ls (.int v3 :: .int v2 :: .int v1 :: .ref k0 :: rest))) : W p l e room_1 s m #[Value.ref b] below meth c H locs ce sl (lw_Z below #[Value.ref b] s) (F0 m 695 ls (rest)) := by
  obtain ⟨hx, hb, hr, hml, hown, hts1, hX, hbl, hlocks, hgv⟩ := id C0
  have hbA : ¬ (fun q : Nat => s.heap.size ≤ q) b := Nat.not_le.mpr hbl
  refine lv_aload_n hx hb dL_law_695 rfl (lv_at hl 1 rfl) ?_
  refine lv_aload_n hx hb dL_law_696 rfl (lv_at hl 3 rfl) ?_
  refine lv_iload_n hx hb dL_law_697 rfl (lv_at hl 0 rfl) ?_
  refine lv_iconst (v := 1) hx hb dL_law_698 rfl ?_
  refine lv_iadd hx hb dL_law_699 ?_
  refine zz_i (v := nI (6 * k9 + 1)) (nI_add (6 * k9) 1) ?_
  refine va_sld hx hb hX hbl hbA hS (vp_in_nI (n := 6 * k9 + 1) (N := L9) (by omega) (by omega)) dL_law_700 ?_
  refine zz_i (v := v1) ((congrArg xs (nI_clamp (by omega))).trans h1) ?_
  refine lv_aload_n hx hb dL_law_701 rfl (lv_at hl 3 rfl) ?_
  refine lv_iload_n hx hb dL_law_702 rfl (lv_at hl 0 rfl) ?_
  refine lv_iconst (v := 2) hx hb dL_law_703 rfl ?_
  refine lv_iadd hx hb dL_law_704 ?_
  refine zz_i (v := nI (6 * k9 + 2)) (nI_add (6 * k9) 2) ?_
  refine va_sld hx hb hX hbl hbA hS (vp_in_nI (n := 6 * k9 + 2) (N := L9) (by omega) (by omega)) dL_law_705 ?_
  refine zz_i (v := v2) ((congrArg xs (nI_clamp (by omega))).trans h2) ?_
  refine lv_aload_n hx hb dL_law_706 rfl (lv_at hl 3 rfl) ?_
  refine lv_iload_n hx hb dL_law_707 rfl (lv_at hl 0 rfl) ?_
  refine lv_iconst (v := 3) hx hb dL_law_708 rfl ?_
  refine lv_iadd hx hb dL_law_709 ?_
  refine zz_i (v := nI (6 * k9 + 3)) (nI_add (6 * k9) 3) ?_
  refine va_sld hx hb hX hbl hbA hS (vp_in_nI (n := 6 * k9 + 3) (N := L9) (by omega) (by omega)) dL_law_710 ?_
  refine zz_i (v := v3) ((congrArg xs (nI_clamp (by omega))).trans h3) ?_
  exact k
theorem la_18_1 {p : Program} {e : Env} {s : State} {m : MethodId} {below : List Frame} {meth : Method} {c : Code} (l : Launch) {b L9 : Nat} {xs : Nat → Int32} (C0 : lw_At p s m meth c b L9 xs) {x k0 k9 ce sl : Nat} (hk9 : 6 * k9 + 6 ≤ L9) (hL9 : L9 ≤ 3072) {H : Heap} {locs : List Loc} {ls : Array Slot} {rest : List Value} (hS : va_S (fun q : Nat => s.heap.size ≤ q) s.heap H locs) (hl : lv_has ls 4 [(3, .int (nI (6 * k9))), (2, .ref k0), (1, .ref x), (0, .ref b)]) {v1 : Int32} {v2 : Int32} {v3 : Int32} {v4 : Int32} (h1 : xs (6 * k9 + 1) = v1) (h2 : xs (6 * k9 + 2) = v2) (h3 : xs (6 * k9 + 3) = v3) (h4 : xs (6 * k9 + 4) = v4) (k : W p l e room_1 s m #[Value.ref b] below meth c H locs ce sl (lw_Z below #[Value.ref b] s) (F0 m 739 ls (.int v4 :: .int v3 :: .int v2 :: .int v1 :: .ref x :: rest))) : W p l e room_1 s m #[Value.ref b] below meth c H locs ce sl (lw_Z below #[Value.ref b] s) (F0 m 718 ls (rest)) := by
  obtain ⟨hx, hb, hr, hml, hown, hts1, hX, hbl, hlocks, hgv⟩ := id C0
  have hbA : ¬ (fun q : Nat => s.heap.size ≤ q) b := Nat.not_le.mpr hbl
  refine lv_aload_n hx hb dL_law_718 rfl (lv_at hl 2 rfl) ?_
  refine lv_aload_n hx hb dL_law_719 rfl (lv_at hl 3 rfl) ?_
  refine lv_iload_n hx hb dL_law_720 rfl (lv_at hl 0 rfl) ?_
  refine lv_iconst (v := 1) hx hb dL_law_721 rfl ?_
  refine lv_iadd hx hb dL_law_722 ?_
  refine zz_i (v := nI (6 * k9 + 1)) (nI_add (6 * k9) 1) ?_
  refine va_sld hx hb hX hbl hbA hS (vp_in_nI (n := 6 * k9 + 1) (N := L9) (by omega) (by omega)) dL_law_723 ?_
  refine zz_i (v := v1) ((congrArg xs (nI_clamp (by omega))).trans h1) ?_
  refine lv_aload_n hx hb dL_law_724 rfl (lv_at hl 3 rfl) ?_
  refine lv_iload_n hx hb dL_law_725 rfl (lv_at hl 0 rfl) ?_
  refine lv_iconst (v := 2) hx hb dL_law_726 rfl ?_
  refine lv_iadd hx hb dL_law_727 ?_
  refine zz_i (v := nI (6 * k9 + 2)) (nI_add (6 * k9) 2) ?_
  refine va_sld hx hb hX hbl hbA hS (vp_in_nI (n := 6 * k9 + 2) (N := L9) (by omega) (by omega)) dL_law_728 ?_
  refine zz_i (v := v2) ((congrArg xs (nI_clamp (by omega))).trans h2) ?_
  refine lv_aload_n hx hb dL_law_729 rfl (lv_at hl 3 rfl) ?_
  refine lv_iload_n hx hb dL_law_730 rfl (lv_at hl 0 rfl) ?_
  refine lv_iconst (v := 3) hx hb dL_law_731 rfl ?_
  refine lv_iadd hx hb dL_law_732 ?_
  refine zz_i (v := nI (6 * k9 + 3)) (nI_add (6 * k9) 3) ?_
  refine va_sld hx hb hX hbl hbA hS (vp_in_nI (n := 6 * k9 + 3) (N := L9) (by omega) (by omega)) dL_law_733 ?_
  refine zz_i (v := v3) ((congrArg xs (nI_clamp (by omega))).trans h3) ?_
  refine lv_aload_n hx hb dL_law_734 rfl (lv_at hl 3 rfl) ?_
  refine lv_iload_n hx hb dL_law_735 rfl (lv_at hl 0 rfl) ?_
  refine lv_iconst (v := 4) hx hb dL_law_736 rfl ?_
  refine lv_iadd hx hb dL_law_737 ?_
  refine zz_i (v := nI (6 * k9 + 4)) (nI_add (6 * k9) 4) ?_
  refine va_sld hx hb hX hbl hbA hS (vp_in_nI (n := 6 * k9 + 4) (N := L9) (by omega) (by omega)) dL_law_738 ?_
  refine zz_i (v := v4) ((congrArg xs (nI_clamp (by omega))).trans h4) ?_
  exact k
theorem la_18_2 {p : Program} {e : Env} {s : State} {m : MethodId} {below : List Frame} {meth : Method} {c : Code} (l : Launch) {b L9 : Nat} {xs : Nat → Int32} (C0 : lw_At p s m meth c b L9 xs) {x k0 k9 ce sl : Nat} (hk9 : 6 * k9 + 6 ≤ L9) (hL9 : L9 ≤ 3072) {H : Heap} {locs : List Loc} {ls : Array Slot} {rest : List Value} (hS : va_S (fun q : Nat => s.heap.size ≤ q) s.heap H locs) (hl : lv_has ls 4 [(3, .int (nI (6 * k9))), (2, .ref k0), (1, .ref x), (0, .ref b)]) {v1 : Int32} {v2 : Int32} {v3 : Int32} {v4 : Int32} (h1 : xs (6 * k9 + 1) = v1) (h2 : xs (6 * k9 + 2) = v2) (h3 : xs (6 * k9 + 3) = v3) (h4 : xs (6 * k9 + 4) = v4) (k : W p l e room_1 s m #[Value.ref b] below meth c H locs ce sl (lw_Z below #[Value.ref b] s) (F0 m 764 ls (.int v4 :: .int v3 :: .int v2 :: .int v1 :: .ref k0 :: rest))) : W p l e room_1 s m #[Value.ref b] below meth c H locs ce sl (lw_Z below #[Value.ref b] s) (F0 m 743 ls (rest)) := by
  obtain ⟨hx, hb, hr, hml, hown, hts1, hX, hbl, hlocks, hgv⟩ := id C0
  have hbA : ¬ (fun q : Nat => s.heap.size ≤ q) b := Nat.not_le.mpr hbl
  refine lv_aload_n hx hb dL_law_743 rfl (lv_at hl 1 rfl) ?_
  refine lv_aload_n hx hb dL_law_744 rfl (lv_at hl 3 rfl) ?_
  refine lv_iload_n hx hb dL_law_745 rfl (lv_at hl 0 rfl) ?_
  refine lv_iconst (v := 1) hx hb dL_law_746 rfl ?_
  refine lv_iadd hx hb dL_law_747 ?_
  refine zz_i (v := nI (6 * k9 + 1)) (nI_add (6 * k9) 1) ?_
  refine va_sld hx hb hX hbl hbA hS (vp_in_nI (n := 6 * k9 + 1) (N := L9) (by omega) (by omega)) dL_law_748 ?_
  refine zz_i (v := v1) ((congrArg xs (nI_clamp (by omega))).trans h1) ?_
  refine lv_aload_n hx hb dL_law_749 rfl (lv_at hl 3 rfl) ?_
  refine lv_iload_n hx hb dL_law_750 rfl (lv_at hl 0 rfl) ?_
  refine lv_iconst (v := 2) hx hb dL_law_751 rfl ?_
  refine lv_iadd hx hb dL_law_752 ?_
  refine zz_i (v := nI (6 * k9 + 2)) (nI_add (6 * k9) 2) ?_
  refine va_sld hx hb hX hbl hbA hS (vp_in_nI (n := 6 * k9 + 2) (N := L9) (by omega) (by omega)) dL_law_753 ?_
  refine zz_i (v := v2) ((congrArg xs (nI_clamp (by omega))).trans h2) ?_
  refine lv_aload_n hx hb dL_law_754 rfl (lv_at hl 3 rfl) ?_
  refine lv_iload_n hx hb dL_law_755 rfl (lv_at hl 0 rfl) ?_
  refine lv_iconst (v := 3) hx hb dL_law_756 rfl ?_
  refine lv_iadd hx hb dL_law_757 ?_
  refine zz_i (v := nI (6 * k9 + 3)) (nI_add (6 * k9) 3) ?_
  refine va_sld hx hb hX hbl hbA hS (vp_in_nI (n := 6 * k9 + 3) (N := L9) (by omega) (by omega)) dL_law_758 ?_
  refine zz_i (v := v3) ((congrArg xs (nI_clamp (by omega))).trans h3) ?_
  refine lv_aload_n hx hb dL_law_759 rfl (lv_at hl 3 rfl) ?_
  refine lv_iload_n hx hb dL_law_760 rfl (lv_at hl 0 rfl) ?_
  refine lv_iconst (v := 4) hx hb dL_law_761 rfl ?_
  refine lv_iadd hx hb dL_law_762 ?_
  refine zz_i (v := nI (6 * k9 + 4)) (nI_add (6 * k9) 4) ?_
  refine va_sld hx hb hX hbl hbA hS (vp_in_nI (n := 6 * k9 + 4) (N := L9) (by omega) (by omega)) dL_law_763 ?_
  refine zz_i (v := v4) ((congrArg xs (nI_clamp (by omega))).trans h4) ?_
  exact k
theorem la_19_1 {p : Program} {e : Env} {s : State} {m : MethodId} {below : List Frame} {meth : Method} {c : Code} (l : Launch) {b L9 : Nat} {xs : Nat → Int32} (C0 : lw_At p s m meth c b L9 xs) {x k0 k9 ce sl : Nat} (hk9 : 6 * k9 + 6 ≤ L9) (hL9 : L9 ≤ 3072) {H : Heap} {locs : List Loc} {ls : Array Slot} {rest : List Value} (hS : va_S (fun q : Nat => s.heap.size ≤ q) s.heap H locs) (hl : lv_has ls 4 [(3, .int (nI (6 * k9))), (2, .ref k0), (1, .ref x), (0, .ref b)]) {v1 : Int32} {v2 : Int32} {v3 : Int32} (h1 : xs (6 * k9 + 1) = v1) (h2 : xs (6 * k9 + 2) = v2) (h3 : xs (6 * k9 + 3) = v3) (k : W p l e room_1 s m #[Value.ref b] below meth c H locs ce sl (lw_Z below #[Value.ref b] s) (F0 m 787 ls (.int v3 :: .int v2 :: .int v1 :: .ref x :: rest))) : W p l e room_1 s m #[Value.ref b] below meth c H locs ce sl (lw_Z below #[Value.ref b] s) (F0 m 771 ls (rest)) := by
  obtain ⟨hx, hb, hr, hml, hown, hts1, hX, hbl, hlocks, hgv⟩ := id C0
  have hbA : ¬ (fun q : Nat => s.heap.size ≤ q) b := Nat.not_le.mpr hbl
  refine lv_aload_n hx hb dL_law_771 rfl (lv_at hl 2 rfl) ?_
  refine lv_aload_n hx hb dL_law_772 rfl (lv_at hl 3 rfl) ?_
  refine lv_iload_n hx hb dL_law_773 rfl (lv_at hl 0 rfl) ?_
  refine lv_iconst (v := 1) hx hb dL_law_774 rfl ?_
  refine lv_iadd hx hb dL_law_775 ?_
  refine zz_i (v := nI (6 * k9 + 1)) (nI_add (6 * k9) 1) ?_
  refine va_sld hx hb hX hbl hbA hS (vp_in_nI (n := 6 * k9 + 1) (N := L9) (by omega) (by omega)) dL_law_776 ?_
  refine zz_i (v := v1) ((congrArg xs (nI_clamp (by omega))).trans h1) ?_
  refine lv_aload_n hx hb dL_law_777 rfl (lv_at hl 3 rfl) ?_
  refine lv_iload_n hx hb dL_law_778 rfl (lv_at hl 0 rfl) ?_
  refine lv_iconst (v := 2) hx hb dL_law_779 rfl ?_
  refine lv_iadd hx hb dL_law_780 ?_
  refine zz_i (v := nI (6 * k9 + 2)) (nI_add (6 * k9) 2) ?_
  refine va_sld hx hb hX hbl hbA hS (vp_in_nI (n := 6 * k9 + 2) (N := L9) (by omega) (by omega)) dL_law_781 ?_
  refine zz_i (v := v2) ((congrArg xs (nI_clamp (by omega))).trans h2) ?_
  refine lv_aload_n hx hb dL_law_782 rfl (lv_at hl 3 rfl) ?_
  refine lv_iload_n hx hb dL_law_783 rfl (lv_at hl 0 rfl) ?_
  refine lv_iconst (v := 3) hx hb dL_law_784 rfl ?_
  refine lv_iadd hx hb dL_law_785 ?_
  refine zz_i (v := nI (6 * k9 + 3)) (nI_add (6 * k9) 3) ?_
  refine va_sld hx hb hX hbl hbA hS (vp_in_nI (n := 6 * k9 + 3) (N := L9) (by omega) (by omega)) dL_law_786 ?_
  refine zz_i (v := v3) ((congrArg xs (nI_clamp (by omega))).trans h3) ?_
  exact k
theorem la_19_2 {p : Program} {e : Env} {s : State} {m : MethodId} {below : List Frame} {meth : Method} {c : Code} (l : Launch) {b L9 : Nat} {xs : Nat → Int32} (C0 : lw_At p s m meth c b L9 xs) {x k0 k9 ce sl : Nat} (hk9 : 6 * k9 + 6 ≤ L9) (hL9 : L9 ≤ 3072) {H : Heap} {locs : List Loc} {ls : Array Slot} {rest : List Value} (hS : va_S (fun q : Nat => s.heap.size ≤ q) s.heap H locs) (hl : lv_has ls 4 [(3, .int (nI (6 * k9))), (2, .ref k0), (1, .ref x), (0, .ref b)]) {v1 : Int32} {v2 : Int32} {v3 : Int32} (h1 : xs (6 * k9 + 1) = v1) (h2 : xs (6 * k9 + 2) = v2) (h3 : xs (6 * k9 + 3) = v3) (k : W p l e room_1 s m #[Value.ref b] below meth c H locs ce sl (lw_Z below #[Value.ref b] s) (F0 m 807 ls (.int v3 :: .int v2 :: .int v1 :: .ref k0 :: rest))) : W p l e room_1 s m #[Value.ref b] below meth c H locs ce sl (lw_Z below #[Value.ref b] s) (F0 m 791 ls (rest)) := by
  obtain ⟨hx, hb, hr, hml, hown, hts1, hX, hbl, hlocks, hgv⟩ := id C0
  have hbA : ¬ (fun q : Nat => s.heap.size ≤ q) b := Nat.not_le.mpr hbl
  refine lv_aload_n hx hb dL_law_791 rfl (lv_at hl 1 rfl) ?_
  refine lv_aload_n hx hb dL_law_792 rfl (lv_at hl 3 rfl) ?_
  refine lv_iload_n hx hb dL_law_793 rfl (lv_at hl 0 rfl) ?_
  refine lv_iconst (v := 1) hx hb dL_law_794 rfl ?_
  refine lv_iadd hx hb dL_law_795 ?_
  refine zz_i (v := nI (6 * k9 + 1)) (nI_add (6 * k9) 1) ?_
  refine va_sld hx hb hX hbl hbA hS (vp_in_nI (n := 6 * k9 + 1) (N := L9) (by omega) (by omega)) dL_law_796 ?_
  refine zz_i (v := v1) ((congrArg xs (nI_clamp (by omega))).trans h1) ?_
  refine lv_aload_n hx hb dL_law_797 rfl (lv_at hl 3 rfl) ?_
  refine lv_iload_n hx hb dL_law_798 rfl (lv_at hl 0 rfl) ?_
  refine lv_iconst (v := 2) hx hb dL_law_799 rfl ?_
  refine lv_iadd hx hb dL_law_800 ?_
  refine zz_i (v := nI (6 * k9 + 2)) (nI_add (6 * k9) 2) ?_
  refine va_sld hx hb hX hbl hbA hS (vp_in_nI (n := 6 * k9 + 2) (N := L9) (by omega) (by omega)) dL_law_801 ?_
  refine zz_i (v := v2) ((congrArg xs (nI_clamp (by omega))).trans h2) ?_
  refine lv_aload_n hx hb dL_law_802 rfl (lv_at hl 3 rfl) ?_
  refine lv_iload_n hx hb dL_law_803 rfl (lv_at hl 0 rfl) ?_
  refine lv_iconst (v := 3) hx hb dL_law_804 rfl ?_
  refine lv_iadd hx hb dL_law_805 ?_
  refine zz_i (v := nI (6 * k9 + 3)) (nI_add (6 * k9) 3) ?_
  refine va_sld hx hb hX hbl hbA hS (vp_in_nI (n := 6 * k9 + 3) (N := L9) (by omega) (by omega)) dL_law_806 ?_
  refine zz_i (v := v3) ((congrArg xs (nI_clamp (by omega))).trans h3) ?_
  exact k
theorem la_20_1 {p : Program} {e : Env} {s : State} {m : MethodId} {below : List Frame} {meth : Method} {c : Code} (l : Launch) {b L9 : Nat} {xs : Nat → Int32} (C0 : lw_At p s m meth c b L9 xs) {x k0 k9 ce sl : Nat} (hk9 : 6 * k9 + 6 ≤ L9) (hL9 : L9 ≤ 3072) {H : Heap} {locs : List Loc} {ls : Array Slot} {rest : List Value} (hS : va_S (fun q : Nat => s.heap.size ≤ q) s.heap H locs) (hl : lv_has ls 4 [(3, .int (nI (6 * k9))), (2, .ref k0), (1, .ref x), (0, .ref b)]) {v1 : Int32} (h1 : xs (6 * k9 + 1) = v1) (k : W p l e room_1 s m #[Value.ref b] below meth c H locs ce sl (lw_Z below #[Value.ref b] s) (F0 m 820 ls (.int v1 :: .ref x :: rest))) : W p l e room_1 s m #[Value.ref b] below meth c H locs ce sl (lw_Z below #[Value.ref b] s) (F0 m 814 ls (rest)) := by
  obtain ⟨hx, hb, hr, hml, hown, hts1, hX, hbl, hlocks, hgv⟩ := id C0
  have hbA : ¬ (fun q : Nat => s.heap.size ≤ q) b := Nat.not_le.mpr hbl
  refine lv_aload_n hx hb dL_law_814 rfl (lv_at hl 2 rfl) ?_
  refine lv_aload_n hx hb dL_law_815 rfl (lv_at hl 3 rfl) ?_
  refine lv_iload_n hx hb dL_law_816 rfl (lv_at hl 0 rfl) ?_
  refine lv_iconst (v := 1) hx hb dL_law_817 rfl ?_
  refine lv_iadd hx hb dL_law_818 ?_
  refine zz_i (v := nI (6 * k9 + 1)) (nI_add (6 * k9) 1) ?_
  refine va_sld hx hb hX hbl hbA hS (vp_in_nI (n := 6 * k9 + 1) (N := L9) (by omega) (by omega)) dL_law_819 ?_
  refine zz_i (v := v1) ((congrArg xs (nI_clamp (by omega))).trans h1) ?_
  exact k
theorem la_20_2 {p : Program} {e : Env} {s : State} {m : MethodId} {below : List Frame} {meth : Method} {c : Code} (l : Launch) {b L9 : Nat} {xs : Nat → Int32} (C0 : lw_At p s m meth c b L9 xs) {x k0 k9 ce sl : Nat} (hk9 : 6 * k9 + 6 ≤ L9) (hL9 : L9 ≤ 3072) {H : Heap} {locs : List Loc} {ls : Array Slot} {rest : List Value} (hS : va_S (fun q : Nat => s.heap.size ≤ q) s.heap H locs) (hl : lv_has ls 4 [(3, .int (nI (6 * k9))), (2, .ref k0), (1, .ref x), (0, .ref b)]) {v1 : Int32} (h1 : xs (6 * k9 + 1) = v1) (k : W p l e room_1 s m #[Value.ref b] below meth c H locs ce sl (lw_Z below #[Value.ref b] s) (F0 m 830 ls (.int v1 :: .ref k0 :: rest))) : W p l e room_1 s m #[Value.ref b] below meth c H locs ce sl (lw_Z below #[Value.ref b] s) (F0 m 824 ls (rest)) := by
  obtain ⟨hx, hb, hr, hml, hown, hts1, hX, hbl, hlocks, hgv⟩ := id C0
  have hbA : ¬ (fun q : Nat => s.heap.size ≤ q) b := Nat.not_le.mpr hbl
  refine lv_aload_n hx hb dL_law_824 rfl (lv_at hl 1 rfl) ?_
  refine lv_aload_n hx hb dL_law_825 rfl (lv_at hl 3 rfl) ?_
  refine lv_iload_n hx hb dL_law_826 rfl (lv_at hl 0 rfl) ?_
  refine lv_iconst (v := 1) hx hb dL_law_827 rfl ?_
  refine lv_iadd hx hb dL_law_828 ?_
  refine zz_i (v := nI (6 * k9 + 1)) (nI_add (6 * k9) 1) ?_
  refine va_sld hx hb hX hbl hbA hS (vp_in_nI (n := 6 * k9 + 1) (N := L9) (by omega) (by omega)) dL_law_829 ?_
  refine zz_i (v := v1) ((congrArg xs (nI_clamp (by omega))).trans h1) ?_
  exact k
theorem la_21_1 {p : Program} {e : Env} {s : State} {m : MethodId} {below : List Frame} {meth : Method} {c : Code} (l : Launch) {b L9 : Nat} {xs : Nat → Int32} (C0 : lw_At p s m meth c b L9 xs) {x k0 k9 ce sl : Nat} (hk9 : 6 * k9 + 6 ≤ L9) (hL9 : L9 ≤ 3072) {H : Heap} {locs : List Loc} {ls : Array Slot} {rest : List Value} (hS : va_S (fun q : Nat => s.heap.size ≤ q) s.heap H locs) (hl : lv_has ls 4 [(3, .int (nI (6 * k9))), (2, .ref k0), (1, .ref x), (0, .ref b)]) {v1 : Int32} {v2 : Int32} {v3 : Int32} (h1 : xs (6 * k9 + 1) = v1) (h2 : xs (6 * k9 + 2) = v2) (h3 : xs (6 * k9 + 3) = v3) (k : W p l e room_1 s m #[Value.ref b] below meth c H locs ce sl (lw_Z below #[Value.ref b] s) (F0 m 853 ls (.int v3 :: .int v2 :: .int v1 :: .ref x :: rest))) : W p l e room_1 s m #[Value.ref b] below meth c H locs ce sl (lw_Z below #[Value.ref b] s) (F0 m 837 ls (rest)) := by
  obtain ⟨hx, hb, hr, hml, hown, hts1, hX, hbl, hlocks, hgv⟩ := id C0
  have hbA : ¬ (fun q : Nat => s.heap.size ≤ q) b := Nat.not_le.mpr hbl
  refine lv_aload_n hx hb dL_law_837 rfl (lv_at hl 2 rfl) ?_
  refine lv_aload_n hx hb dL_law_838 rfl (lv_at hl 3 rfl) ?_
  refine lv_iload_n hx hb dL_law_839 rfl (lv_at hl 0 rfl) ?_
  refine lv_iconst (v := 1) hx hb dL_law_840 rfl ?_
  refine lv_iadd hx hb dL_law_841 ?_
  refine zz_i (v := nI (6 * k9 + 1)) (nI_add (6 * k9) 1) ?_
  refine va_sld hx hb hX hbl hbA hS (vp_in_nI (n := 6 * k9 + 1) (N := L9) (by omega) (by omega)) dL_law_842 ?_
  refine zz_i (v := v1) ((congrArg xs (nI_clamp (by omega))).trans h1) ?_
  refine lv_aload_n hx hb dL_law_843 rfl (lv_at hl 3 rfl) ?_
  refine lv_iload_n hx hb dL_law_844 rfl (lv_at hl 0 rfl) ?_
  refine lv_iconst (v := 2) hx hb dL_law_845 rfl ?_
  refine lv_iadd hx hb dL_law_846 ?_
  refine zz_i (v := nI (6 * k9 + 2)) (nI_add (6 * k9) 2) ?_
  refine va_sld hx hb hX hbl hbA hS (vp_in_nI (n := 6 * k9 + 2) (N := L9) (by omega) (by omega)) dL_law_847 ?_
  refine zz_i (v := v2) ((congrArg xs (nI_clamp (by omega))).trans h2) ?_
  refine lv_aload_n hx hb dL_law_848 rfl (lv_at hl 3 rfl) ?_
  refine lv_iload_n hx hb dL_law_849 rfl (lv_at hl 0 rfl) ?_
  refine lv_iconst (v := 3) hx hb dL_law_850 rfl ?_
  refine lv_iadd hx hb dL_law_851 ?_
  refine zz_i (v := nI (6 * k9 + 3)) (nI_add (6 * k9) 3) ?_
  refine va_sld hx hb hX hbl hbA hS (vp_in_nI (n := 6 * k9 + 3) (N := L9) (by omega) (by omega)) dL_law_852 ?_
  refine zz_i (v := v3) ((congrArg xs (nI_clamp (by omega))).trans h3) ?_
  exact k
theorem la_21_2 {p : Program} {e : Env} {s : State} {m : MethodId} {below : List Frame} {meth : Method} {c : Code} (l : Launch) {b L9 : Nat} {xs : Nat → Int32} (C0 : lw_At p s m meth c b L9 xs) {x k0 k9 ce sl : Nat} (hk9 : 6 * k9 + 6 ≤ L9) (hL9 : L9 ≤ 3072) {H : Heap} {locs : List Loc} {ls : Array Slot} {rest : List Value} (hS : va_S (fun q : Nat => s.heap.size ≤ q) s.heap H locs) (hl : lv_has ls 4 [(3, .int (nI (6 * k9))), (2, .ref k0), (1, .ref x), (0, .ref b)]) {v1 : Int32} {v2 : Int32} {v3 : Int32} (h1 : xs (6 * k9 + 1) = v1) (h2 : xs (6 * k9 + 2) = v2) (h3 : xs (6 * k9 + 3) = v3) (k : W p l e room_1 s m #[Value.ref b] below meth c H locs ce sl (lw_Z below #[Value.ref b] s) (F0 m 873 ls (.int v3 :: .int v2 :: .int v1 :: .ref k0 :: rest))) : W p l e room_1 s m #[Value.ref b] below meth c H locs ce sl (lw_Z below #[Value.ref b] s) (F0 m 857 ls (rest)) := by
  obtain ⟨hx, hb, hr, hml, hown, hts1, hX, hbl, hlocks, hgv⟩ := id C0
  have hbA : ¬ (fun q : Nat => s.heap.size ≤ q) b := Nat.not_le.mpr hbl
  refine lv_aload_n hx hb dL_law_857 rfl (lv_at hl 1 rfl) ?_
  refine lv_aload_n hx hb dL_law_858 rfl (lv_at hl 3 rfl) ?_
  refine lv_iload_n hx hb dL_law_859 rfl (lv_at hl 0 rfl) ?_
  refine lv_iconst (v := 1) hx hb dL_law_860 rfl ?_
  refine lv_iadd hx hb dL_law_861 ?_
  refine zz_i (v := nI (6 * k9 + 1)) (nI_add (6 * k9) 1) ?_
  refine va_sld hx hb hX hbl hbA hS (vp_in_nI (n := 6 * k9 + 1) (N := L9) (by omega) (by omega)) dL_law_862 ?_
  refine zz_i (v := v1) ((congrArg xs (nI_clamp (by omega))).trans h1) ?_
  refine lv_aload_n hx hb dL_law_863 rfl (lv_at hl 3 rfl) ?_
  refine lv_iload_n hx hb dL_law_864 rfl (lv_at hl 0 rfl) ?_
  refine lv_iconst (v := 2) hx hb dL_law_865 rfl ?_
  refine lv_iadd hx hb dL_law_866 ?_
  refine zz_i (v := nI (6 * k9 + 2)) (nI_add (6 * k9) 2) ?_
  refine va_sld hx hb hX hbl hbA hS (vp_in_nI (n := 6 * k9 + 2) (N := L9) (by omega) (by omega)) dL_law_867 ?_
  refine zz_i (v := v2) ((congrArg xs (nI_clamp (by omega))).trans h2) ?_
  refine lv_aload_n hx hb dL_law_868 rfl (lv_at hl 3 rfl) ?_
  refine lv_iload_n hx hb dL_law_869 rfl (lv_at hl 0 rfl) ?_
  refine lv_iconst (v := 3) hx hb dL_law_870 rfl ?_
  refine lv_iadd hx hb dL_law_871 ?_
  refine zz_i (v := nI (6 * k9 + 3)) (nI_add (6 * k9) 3) ?_
  refine va_sld hx hb hX hbl hbA hS (vp_in_nI (n := 6 * k9 + 3) (N := L9) (by omega) (by omega)) dL_law_872 ?_
  refine zz_i (v := v3) ((congrArg xs (nI_clamp (by omega))).trans h3) ?_
  exact k
theorem la_22_1 {p : Program} {e : Env} {s : State} {m : MethodId} {below : List Frame} {meth : Method} {c : Code} (l : Launch) {b L9 : Nat} {xs : Nat → Int32} (C0 : lw_At p s m meth c b L9 xs) {x k0 k9 ce sl : Nat} (hk9 : 6 * k9 + 6 ≤ L9) (hL9 : L9 ≤ 3072) {H : Heap} {locs : List Loc} {ls : Array Slot} {rest : List Value} (hS : va_S (fun q : Nat => s.heap.size ≤ q) s.heap H locs) (hl : lv_has ls 4 [(3, .int (nI (6 * k9))), (2, .ref k0), (1, .ref x), (0, .ref b)]) {v1 : Int32} {v2 : Int32} (h1 : xs (6 * k9 + 1) = v1) (h2 : xs (6 * k9 + 2) = v2) (k : W p l e room_1 s m #[Value.ref b] below meth c H locs ce sl (lw_Z below #[Value.ref b] s) (F0 m 891 ls (.int v2 :: .int v1 :: .ref x :: rest))) : W p l e room_1 s m #[Value.ref b] below meth c H locs ce sl (lw_Z below #[Value.ref b] s) (F0 m 880 ls (rest)) := by
  obtain ⟨hx, hb, hr, hml, hown, hts1, hX, hbl, hlocks, hgv⟩ := id C0
  have hbA : ¬ (fun q : Nat => s.heap.size ≤ q) b := Nat.not_le.mpr hbl
  refine lv_aload_n hx hb dL_law_880 rfl (lv_at hl 2 rfl) ?_
  refine lv_aload_n hx hb dL_law_881 rfl (lv_at hl 3 rfl) ?_
  refine lv_iload_n hx hb dL_law_882 rfl (lv_at hl 0 rfl) ?_
  refine lv_iconst (v := 1) hx hb dL_law_883 rfl ?_
  refine lv_iadd hx hb dL_law_884 ?_
  refine zz_i (v := nI (6 * k9 + 1)) (nI_add (6 * k9) 1) ?_
  refine va_sld hx hb hX hbl hbA hS (vp_in_nI (n := 6 * k9 + 1) (N := L9) (by omega) (by omega)) dL_law_885 ?_
  refine zz_i (v := v1) ((congrArg xs (nI_clamp (by omega))).trans h1) ?_
  refine lv_aload_n hx hb dL_law_886 rfl (lv_at hl 3 rfl) ?_
  refine lv_iload_n hx hb dL_law_887 rfl (lv_at hl 0 rfl) ?_
  refine lv_iconst (v := 2) hx hb dL_law_888 rfl ?_
  refine lv_iadd hx hb dL_law_889 ?_
  refine zz_i (v := nI (6 * k9 + 2)) (nI_add (6 * k9) 2) ?_
  refine va_sld hx hb hX hbl hbA hS (vp_in_nI (n := 6 * k9 + 2) (N := L9) (by omega) (by omega)) dL_law_890 ?_
  refine zz_i (v := v2) ((congrArg xs (nI_clamp (by omega))).trans h2) ?_
  exact k
theorem la_22_2 {p : Program} {e : Env} {s : State} {m : MethodId} {below : List Frame} {meth : Method} {c : Code} (l : Launch) {b L9 : Nat} {xs : Nat → Int32} (C0 : lw_At p s m meth c b L9 xs) {x k0 k9 ce sl : Nat} (hk9 : 6 * k9 + 6 ≤ L9) (hL9 : L9 ≤ 3072) {H : Heap} {locs : List Loc} {ls : Array Slot} {rest : List Value} (hS : va_S (fun q : Nat => s.heap.size ≤ q) s.heap H locs) (hl : lv_has ls 4 [(3, .int (nI (6 * k9))), (2, .ref k0), (1, .ref x), (0, .ref b)]) {v1 : Int32} {v2 : Int32} (h1 : xs (6 * k9 + 1) = v1) (h2 : xs (6 * k9 + 2) = v2) (k : W p l e room_1 s m #[Value.ref b] below meth c H locs ce sl (lw_Z below #[Value.ref b] s) (F0 m 906 ls (.int v2 :: .int v1 :: .ref k0 :: rest))) : W p l e room_1 s m #[Value.ref b] below meth c H locs ce sl (lw_Z below #[Value.ref b] s) (F0 m 895 ls (rest)) := by
  obtain ⟨hx, hb, hr, hml, hown, hts1, hX, hbl, hlocks, hgv⟩ := id C0
  have hbA : ¬ (fun q : Nat => s.heap.size ≤ q) b := Nat.not_le.mpr hbl
  refine lv_aload_n hx hb dL_law_895 rfl (lv_at hl 1 rfl) ?_
  refine lv_aload_n hx hb dL_law_896 rfl (lv_at hl 3 rfl) ?_
  refine lv_iload_n hx hb dL_law_897 rfl (lv_at hl 0 rfl) ?_
  refine lv_iconst (v := 1) hx hb dL_law_898 rfl ?_
  refine lv_iadd hx hb dL_law_899 ?_
  refine zz_i (v := nI (6 * k9 + 1)) (nI_add (6 * k9) 1) ?_
  refine va_sld hx hb hX hbl hbA hS (vp_in_nI (n := 6 * k9 + 1) (N := L9) (by omega) (by omega)) dL_law_900 ?_
  refine zz_i (v := v1) ((congrArg xs (nI_clamp (by omega))).trans h1) ?_
  refine lv_aload_n hx hb dL_law_901 rfl (lv_at hl 3 rfl) ?_
  refine lv_iload_n hx hb dL_law_902 rfl (lv_at hl 0 rfl) ?_
  refine lv_iconst (v := 2) hx hb dL_law_903 rfl ?_
  refine lv_iadd hx hb dL_law_904 ?_
  refine zz_i (v := nI (6 * k9 + 2)) (nI_add (6 * k9) 2) ?_
  refine va_sld hx hb hX hbl hbA hS (vp_in_nI (n := 6 * k9 + 2) (N := L9) (by omega) (by omega)) dL_law_905 ?_
  refine zz_i (v := v2) ((congrArg xs (nI_clamp (by omega))).trans h2) ?_
  exact k
theorem la_23_1 {p : Program} {e : Env} {s : State} {m : MethodId} {below : List Frame} {meth : Method} {c : Code} (l : Launch) {b L9 : Nat} {xs : Nat → Int32} (C0 : lw_At p s m meth c b L9 xs) {x k0 k9 ce sl : Nat} (hk9 : 6 * k9 + 6 ≤ L9) (hL9 : L9 ≤ 3072) {H : Heap} {locs : List Loc} {ls : Array Slot} {rest : List Value} (hS : va_S (fun q : Nat => s.heap.size ≤ q) s.heap H locs) (hl : lv_has ls 4 [(3, .int (nI (6 * k9))), (2, .ref k0), (1, .ref x), (0, .ref b)]) {v1 : Int32} (h1 : xs (6 * k9 + 1) = v1) (k : W p l e room_1 s m #[Value.ref b] below meth c H locs ce sl (lw_Z below #[Value.ref b] s) (F0 m 919 ls (.int v1 :: .ref x :: rest))) : W p l e room_1 s m #[Value.ref b] below meth c H locs ce sl (lw_Z below #[Value.ref b] s) (F0 m 913 ls (rest)) := by
  obtain ⟨hx, hb, hr, hml, hown, hts1, hX, hbl, hlocks, hgv⟩ := id C0
  have hbA : ¬ (fun q : Nat => s.heap.size ≤ q) b := Nat.not_le.mpr hbl
  refine lv_aload_n hx hb dL_law_913 rfl (lv_at hl 2 rfl) ?_
  refine lv_aload_n hx hb dL_law_914 rfl (lv_at hl 3 rfl) ?_
  refine lv_iload_n hx hb dL_law_915 rfl (lv_at hl 0 rfl) ?_
  refine lv_iconst (v := 1) hx hb dL_law_916 rfl ?_
  refine lv_iadd hx hb dL_law_917 ?_
  refine zz_i (v := nI (6 * k9 + 1)) (nI_add (6 * k9) 1) ?_
  refine va_sld hx hb hX hbl hbA hS (vp_in_nI (n := 6 * k9 + 1) (N := L9) (by omega) (by omega)) dL_law_918 ?_
  refine zz_i (v := v1) ((congrArg xs (nI_clamp (by omega))).trans h1) ?_
  exact k
theorem la_23_2 {p : Program} {e : Env} {s : State} {m : MethodId} {below : List Frame} {meth : Method} {c : Code} (l : Launch) {b L9 : Nat} {xs : Nat → Int32} (C0 : lw_At p s m meth c b L9 xs) {x k0 k9 ce sl : Nat} (hk9 : 6 * k9 + 6 ≤ L9) (hL9 : L9 ≤ 3072) {H : Heap} {locs : List Loc} {ls : Array Slot} {rest : List Value} (hS : va_S (fun q : Nat => s.heap.size ≤ q) s.heap H locs) (hl : lv_has ls 4 [(3, .int (nI (6 * k9))), (2, .ref k0), (1, .ref x), (0, .ref b)]) {v1 : Int32} (h1 : xs (6 * k9 + 1) = v1) (k : W p l e room_1 s m #[Value.ref b] below meth c H locs ce sl (lw_Z below #[Value.ref b] s) (F0 m 929 ls (.int v1 :: .ref k0 :: rest))) : W p l e room_1 s m #[Value.ref b] below meth c H locs ce sl (lw_Z below #[Value.ref b] s) (F0 m 923 ls (rest)) := by
  obtain ⟨hx, hb, hr, hml, hown, hts1, hX, hbl, hlocks, hgv⟩ := id C0
  have hbA : ¬ (fun q : Nat => s.heap.size ≤ q) b := Nat.not_le.mpr hbl
  refine lv_aload_n hx hb dL_law_923 rfl (lv_at hl 1 rfl) ?_
  refine lv_aload_n hx hb dL_law_924 rfl (lv_at hl 3 rfl) ?_
  refine lv_iload_n hx hb dL_law_925 rfl (lv_at hl 0 rfl) ?_
  refine lv_iconst (v := 1) hx hb dL_law_926 rfl ?_
  refine lv_iadd hx hb dL_law_927 ?_
  refine zz_i (v := nI (6 * k9 + 1)) (nI_add (6 * k9) 1) ?_
  refine va_sld hx hb hX hbl hbA hS (vp_in_nI (n := 6 * k9 + 1) (N := L9) (by omega) (by omega)) dL_law_928 ?_
  refine zz_i (v := v1) ((congrArg xs (nI_clamp (by omega))).trans h1) ?_
  exact k
theorem la_24_1 {p : Program} {e : Env} {s : State} {m : MethodId} {below : List Frame} {meth : Method} {c : Code} (l : Launch) {b L9 : Nat} {xs : Nat → Int32} (C0 : lw_At p s m meth c b L9 xs) {x k0 k9 ce sl : Nat} (hk9 : 6 * k9 + 6 ≤ L9) (hL9 : L9 ≤ 3072) {H : Heap} {locs : List Loc} {ls : Array Slot} {rest : List Value} (hS : va_S (fun q : Nat => s.heap.size ≤ q) s.heap H locs) (hl : lv_has ls 4 [(3, .int (nI (6 * k9))), (2, .ref k0), (1, .ref x), (0, .ref b)]) {v1 : Int32} {v2 : Int32} {v3 : Int32} (h1 : xs (6 * k9 + 1) = v1) (h2 : xs (6 * k9 + 2) = v2) (h3 : xs (6 * k9 + 3) = v3) (k : W p l e room_1 s m #[Value.ref b] below meth c H locs ce sl (lw_Z below #[Value.ref b] s) (F0 m 952 ls (.int v3 :: .int v2 :: .int v1 :: .ref x :: rest))) : W p l e room_1 s m #[Value.ref b] below meth c H locs ce sl (lw_Z below #[Value.ref b] s) (F0 m 936 ls (rest)) := by
  obtain ⟨hx, hb, hr, hml, hown, hts1, hX, hbl, hlocks, hgv⟩ := id C0
  have hbA : ¬ (fun q : Nat => s.heap.size ≤ q) b := Nat.not_le.mpr hbl
  refine lv_aload_n hx hb dL_law_936 rfl (lv_at hl 2 rfl) ?_
  refine lv_aload_n hx hb dL_law_937 rfl (lv_at hl 3 rfl) ?_
  refine lv_iload_n hx hb dL_law_938 rfl (lv_at hl 0 rfl) ?_
  refine lv_iconst (v := 1) hx hb dL_law_939 rfl ?_
  refine lv_iadd hx hb dL_law_940 ?_
  refine zz_i (v := nI (6 * k9 + 1)) (nI_add (6 * k9) 1) ?_
  refine va_sld hx hb hX hbl hbA hS (vp_in_nI (n := 6 * k9 + 1) (N := L9) (by omega) (by omega)) dL_law_941 ?_
  refine zz_i (v := v1) ((congrArg xs (nI_clamp (by omega))).trans h1) ?_
  refine lv_aload_n hx hb dL_law_942 rfl (lv_at hl 3 rfl) ?_
  refine lv_iload_n hx hb dL_law_943 rfl (lv_at hl 0 rfl) ?_
  refine lv_iconst (v := 2) hx hb dL_law_944 rfl ?_
  refine lv_iadd hx hb dL_law_945 ?_
  refine zz_i (v := nI (6 * k9 + 2)) (nI_add (6 * k9) 2) ?_
  refine va_sld hx hb hX hbl hbA hS (vp_in_nI (n := 6 * k9 + 2) (N := L9) (by omega) (by omega)) dL_law_946 ?_
  refine zz_i (v := v2) ((congrArg xs (nI_clamp (by omega))).trans h2) ?_
  refine lv_aload_n hx hb dL_law_947 rfl (lv_at hl 3 rfl) ?_
  refine lv_iload_n hx hb dL_law_948 rfl (lv_at hl 0 rfl) ?_
  refine lv_iconst (v := 3) hx hb dL_law_949 rfl ?_
  refine lv_iadd hx hb dL_law_950 ?_
  refine zz_i (v := nI (6 * k9 + 3)) (nI_add (6 * k9) 3) ?_
  refine va_sld hx hb hX hbl hbA hS (vp_in_nI (n := 6 * k9 + 3) (N := L9) (by omega) (by omega)) dL_law_951 ?_
  refine zz_i (v := v3) ((congrArg xs (nI_clamp (by omega))).trans h3) ?_
  exact k
theorem la_24_2 {p : Program} {e : Env} {s : State} {m : MethodId} {below : List Frame} {meth : Method} {c : Code} (l : Launch) {b L9 : Nat} {xs : Nat → Int32} (C0 : lw_At p s m meth c b L9 xs) {x k0 k9 ce sl : Nat} (hk9 : 6 * k9 + 6 ≤ L9) (hL9 : L9 ≤ 3072) {H : Heap} {locs : List Loc} {ls : Array Slot} {rest : List Value} (hS : va_S (fun q : Nat => s.heap.size ≤ q) s.heap H locs) (hl : lv_has ls 4 [(3, .int (nI (6 * k9))), (2, .ref k0), (1, .ref x), (0, .ref b)]) {v1 : Int32} {v2 : Int32} {v3 : Int32} (h1 : xs (6 * k9 + 1) = v1) (h2 : xs (6 * k9 + 2) = v2) (h3 : xs (6 * k9 + 3) = v3) (k : W p l e room_1 s m #[Value.ref b] below meth c H locs ce sl (lw_Z below #[Value.ref b] s) (F0 m 972 ls (.int v3 :: .int v2 :: .int v1 :: .ref k0 :: rest))) : W p l e room_1 s m #[Value.ref b] below meth c H locs ce sl (lw_Z below #[Value.ref b] s) (F0 m 956 ls (rest)) := by
  obtain ⟨hx, hb, hr, hml, hown, hts1, hX, hbl, hlocks, hgv⟩ := id C0
  have hbA : ¬ (fun q : Nat => s.heap.size ≤ q) b := Nat.not_le.mpr hbl
  refine lv_aload_n hx hb dL_law_956 rfl (lv_at hl 1 rfl) ?_
  refine lv_aload_n hx hb dL_law_957 rfl (lv_at hl 3 rfl) ?_
  refine lv_iload_n hx hb dL_law_958 rfl (lv_at hl 0 rfl) ?_
  refine lv_iconst (v := 1) hx hb dL_law_959 rfl ?_
  refine lv_iadd hx hb dL_law_960 ?_
  refine zz_i (v := nI (6 * k9 + 1)) (nI_add (6 * k9) 1) ?_
  refine va_sld hx hb hX hbl hbA hS (vp_in_nI (n := 6 * k9 + 1) (N := L9) (by omega) (by omega)) dL_law_961 ?_
  refine zz_i (v := v1) ((congrArg xs (nI_clamp (by omega))).trans h1) ?_
  refine lv_aload_n hx hb dL_law_962 rfl (lv_at hl 3 rfl) ?_
  refine lv_iload_n hx hb dL_law_963 rfl (lv_at hl 0 rfl) ?_
  refine lv_iconst (v := 2) hx hb dL_law_964 rfl ?_
  refine lv_iadd hx hb dL_law_965 ?_
  refine zz_i (v := nI (6 * k9 + 2)) (nI_add (6 * k9) 2) ?_
  refine va_sld hx hb hX hbl hbA hS (vp_in_nI (n := 6 * k9 + 2) (N := L9) (by omega) (by omega)) dL_law_966 ?_
  refine zz_i (v := v2) ((congrArg xs (nI_clamp (by omega))).trans h2) ?_
  refine lv_aload_n hx hb dL_law_967 rfl (lv_at hl 3 rfl) ?_
  refine lv_iload_n hx hb dL_law_968 rfl (lv_at hl 0 rfl) ?_
  refine lv_iconst (v := 3) hx hb dL_law_969 rfl ?_
  refine lv_iadd hx hb dL_law_970 ?_
  refine zz_i (v := nI (6 * k9 + 3)) (nI_add (6 * k9) 3) ?_
  refine va_sld hx hb hX hbl hbA hS (vp_in_nI (n := 6 * k9 + 3) (N := L9) (by omega) (by omega)) dL_law_971 ?_
  refine zz_i (v := v3) ((congrArg xs (nI_clamp (by omega))).trans h3) ?_
  exact k
theorem la_25_1 {p : Program} {e : Env} {s : State} {m : MethodId} {below : List Frame} {meth : Method} {c : Code} (l : Launch) {b L9 : Nat} {xs : Nat → Int32} (C0 : lw_At p s m meth c b L9 xs) {x k0 k9 ce sl : Nat} (hk9 : 6 * k9 + 6 ≤ L9) (hL9 : L9 ≤ 3072) {H : Heap} {locs : List Loc} {ls : Array Slot} {rest : List Value} (hS : va_S (fun q : Nat => s.heap.size ≤ q) s.heap H locs) (hl : lv_has ls 4 [(3, .int (nI (6 * k9))), (2, .ref k0), (1, .ref x), (0, .ref b)]) {v1 : Int32} {v2 : Int32} (h1 : xs (6 * k9 + 1) = v1) (h2 : xs (6 * k9 + 2) = v2) (k : W p l e room_1 s m #[Value.ref b] below meth c H locs ce sl (lw_Z below #[Value.ref b] s) (F0 m 990 ls (.int v2 :: .int v1 :: .ref x :: rest))) : W p l e room_1 s m #[Value.ref b] below meth c H locs ce sl (lw_Z below #[Value.ref b] s) (F0 m 979 ls (rest)) := by
  obtain ⟨hx, hb, hr, hml, hown, hts1, hX, hbl, hlocks, hgv⟩ := id C0
  have hbA : ¬ (fun q : Nat => s.heap.size ≤ q) b := Nat.not_le.mpr hbl
  refine lv_aload_n hx hb dL_law_979 rfl (lv_at hl 2 rfl) ?_
  refine lv_aload_n hx hb dL_law_980 rfl (lv_at hl 3 rfl) ?_
  refine lv_iload_n hx hb dL_law_981 rfl (lv_at hl 0 rfl) ?_
  refine lv_iconst (v := 1) hx hb dL_law_982 rfl ?_
  refine lv_iadd hx hb dL_law_983 ?_
  refine zz_i (v := nI (6 * k9 + 1)) (nI_add (6 * k9) 1) ?_
  refine va_sld hx hb hX hbl hbA hS (vp_in_nI (n := 6 * k9 + 1) (N := L9) (by omega) (by omega)) dL_law_984 ?_
  refine zz_i (v := v1) ((congrArg xs (nI_clamp (by omega))).trans h1) ?_
  refine lv_aload_n hx hb dL_law_985 rfl (lv_at hl 3 rfl) ?_
  refine lv_iload_n hx hb dL_law_986 rfl (lv_at hl 0 rfl) ?_
  refine lv_iconst (v := 2) hx hb dL_law_987 rfl ?_
  refine lv_iadd hx hb dL_law_988 ?_
  refine zz_i (v := nI (6 * k9 + 2)) (nI_add (6 * k9) 2) ?_
  refine va_sld hx hb hX hbl hbA hS (vp_in_nI (n := 6 * k9 + 2) (N := L9) (by omega) (by omega)) dL_law_989 ?_
  refine zz_i (v := v2) ((congrArg xs (nI_clamp (by omega))).trans h2) ?_
  exact k
theorem la_25_2 {p : Program} {e : Env} {s : State} {m : MethodId} {below : List Frame} {meth : Method} {c : Code} (l : Launch) {b L9 : Nat} {xs : Nat → Int32} (C0 : lw_At p s m meth c b L9 xs) {x k0 k9 ce sl : Nat} (hk9 : 6 * k9 + 6 ≤ L9) (hL9 : L9 ≤ 3072) {H : Heap} {locs : List Loc} {ls : Array Slot} {rest : List Value} (hS : va_S (fun q : Nat => s.heap.size ≤ q) s.heap H locs) (hl : lv_has ls 4 [(3, .int (nI (6 * k9))), (2, .ref k0), (1, .ref x), (0, .ref b)]) {v1 : Int32} {v2 : Int32} (h1 : xs (6 * k9 + 1) = v1) (h2 : xs (6 * k9 + 2) = v2) (k : W p l e room_1 s m #[Value.ref b] below meth c H locs ce sl (lw_Z below #[Value.ref b] s) (F0 m 1005 ls (.int v2 :: .int v1 :: .ref k0 :: rest))) : W p l e room_1 s m #[Value.ref b] below meth c H locs ce sl (lw_Z below #[Value.ref b] s) (F0 m 994 ls (rest)) := by
  obtain ⟨hx, hb, hr, hml, hown, hts1, hX, hbl, hlocks, hgv⟩ := id C0
  have hbA : ¬ (fun q : Nat => s.heap.size ≤ q) b := Nat.not_le.mpr hbl
  refine lv_aload_n hx hb dL_law_994 rfl (lv_at hl 1 rfl) ?_
  refine lv_aload_n hx hb dL_law_995 rfl (lv_at hl 3 rfl) ?_
  refine lv_iload_n hx hb dL_law_996 rfl (lv_at hl 0 rfl) ?_
  refine lv_iconst (v := 1) hx hb dL_law_997 rfl ?_
  refine lv_iadd hx hb dL_law_998 ?_
  refine zz_i (v := nI (6 * k9 + 1)) (nI_add (6 * k9) 1) ?_
  refine va_sld hx hb hX hbl hbA hS (vp_in_nI (n := 6 * k9 + 1) (N := L9) (by omega) (by omega)) dL_law_999 ?_
  refine zz_i (v := v1) ((congrArg xs (nI_clamp (by omega))).trans h1) ?_
  refine lv_aload_n hx hb dL_law_1000 rfl (lv_at hl 3 rfl) ?_
  refine lv_iload_n hx hb dL_law_1001 rfl (lv_at hl 0 rfl) ?_
  refine lv_iconst (v := 2) hx hb dL_law_1002 rfl ?_
  refine lv_iadd hx hb dL_law_1003 ?_
  refine zz_i (v := nI (6 * k9 + 2)) (nI_add (6 * k9) 2) ?_
  refine va_sld hx hb hX hbl hbA hS (vp_in_nI (n := 6 * k9 + 2) (N := L9) (by omega) (by omega)) dL_law_1004 ?_
  refine zz_i (v := v2) ((congrArg xs (nI_clamp (by omega))).trans h2) ?_
  exact k
theorem la_26_1 {p : Program} {e : Env} {s : State} {m : MethodId} {below : List Frame} {meth : Method} {c : Code} (l : Launch) {b L9 : Nat} {xs : Nat → Int32} (C0 : lw_At p s m meth c b L9 xs) {x k0 k9 ce sl : Nat} (hk9 : 6 * k9 + 6 ≤ L9) (hL9 : L9 ≤ 3072) {H : Heap} {locs : List Loc} {ls : Array Slot} {rest : List Value} (hS : va_S (fun q : Nat => s.heap.size ≤ q) s.heap H locs) (hl : lv_has ls 4 [(3, .int (nI (6 * k9))), (2, .ref k0), (1, .ref x), (0, .ref b)]) {v1 : Int32} {v2 : Int32} (h1 : xs (6 * k9 + 1) = v1) (h2 : xs (6 * k9 + 2) = v2) (k : W p l e room_1 s m #[Value.ref b] below meth c H locs ce sl (lw_Z below #[Value.ref b] s) (F0 m 1023 ls (.int v2 :: .int v1 :: .ref x :: rest))) : W p l e room_1 s m #[Value.ref b] below meth c H locs ce sl (lw_Z below #[Value.ref b] s) (F0 m 1012 ls (rest)) := by
  obtain ⟨hx, hb, hr, hml, hown, hts1, hX, hbl, hlocks, hgv⟩ := id C0
  have hbA : ¬ (fun q : Nat => s.heap.size ≤ q) b := Nat.not_le.mpr hbl
  refine lv_aload_n hx hb dL_law_1012 rfl (lv_at hl 2 rfl) ?_
  refine lv_aload_n hx hb dL_law_1013 rfl (lv_at hl 3 rfl) ?_
  refine lv_iload_n hx hb dL_law_1014 rfl (lv_at hl 0 rfl) ?_
  refine lv_iconst (v := 1) hx hb dL_law_1015 rfl ?_
  refine lv_iadd hx hb dL_law_1016 ?_
  refine zz_i (v := nI (6 * k9 + 1)) (nI_add (6 * k9) 1) ?_
  refine va_sld hx hb hX hbl hbA hS (vp_in_nI (n := 6 * k9 + 1) (N := L9) (by omega) (by omega)) dL_law_1017 ?_
  refine zz_i (v := v1) ((congrArg xs (nI_clamp (by omega))).trans h1) ?_
  refine lv_aload_n hx hb dL_law_1018 rfl (lv_at hl 3 rfl) ?_
  refine lv_iload_n hx hb dL_law_1019 rfl (lv_at hl 0 rfl) ?_
  refine lv_iconst (v := 2) hx hb dL_law_1020 rfl ?_
  refine lv_iadd hx hb dL_law_1021 ?_
  refine zz_i (v := nI (6 * k9 + 2)) (nI_add (6 * k9) 2) ?_
  refine va_sld hx hb hX hbl hbA hS (vp_in_nI (n := 6 * k9 + 2) (N := L9) (by omega) (by omega)) dL_law_1022 ?_
  refine zz_i (v := v2) ((congrArg xs (nI_clamp (by omega))).trans h2) ?_
  exact k
theorem la_26_2 {p : Program} {e : Env} {s : State} {m : MethodId} {below : List Frame} {meth : Method} {c : Code} (l : Launch) {b L9 : Nat} {xs : Nat → Int32} (C0 : lw_At p s m meth c b L9 xs) {x k0 k9 ce sl : Nat} (hk9 : 6 * k9 + 6 ≤ L9) (hL9 : L9 ≤ 3072) {H : Heap} {locs : List Loc} {ls : Array Slot} {rest : List Value} (hS : va_S (fun q : Nat => s.heap.size ≤ q) s.heap H locs) (hl : lv_has ls 4 [(3, .int (nI (6 * k9))), (2, .ref k0), (1, .ref x), (0, .ref b)]) {v1 : Int32} {v2 : Int32} (h1 : xs (6 * k9 + 1) = v1) (h2 : xs (6 * k9 + 2) = v2) (k : W p l e room_1 s m #[Value.ref b] below meth c H locs ce sl (lw_Z below #[Value.ref b] s) (F0 m 1038 ls (.int v2 :: .int v1 :: .ref k0 :: rest))) : W p l e room_1 s m #[Value.ref b] below meth c H locs ce sl (lw_Z below #[Value.ref b] s) (F0 m 1027 ls (rest)) := by
  obtain ⟨hx, hb, hr, hml, hown, hts1, hX, hbl, hlocks, hgv⟩ := id C0
  have hbA : ¬ (fun q : Nat => s.heap.size ≤ q) b := Nat.not_le.mpr hbl
  refine lv_aload_n hx hb dL_law_1027 rfl (lv_at hl 1 rfl) ?_
  refine lv_aload_n hx hb dL_law_1028 rfl (lv_at hl 3 rfl) ?_
  refine lv_iload_n hx hb dL_law_1029 rfl (lv_at hl 0 rfl) ?_
  refine lv_iconst (v := 1) hx hb dL_law_1030 rfl ?_
  refine lv_iadd hx hb dL_law_1031 ?_
  refine zz_i (v := nI (6 * k9 + 1)) (nI_add (6 * k9) 1) ?_
  refine va_sld hx hb hX hbl hbA hS (vp_in_nI (n := 6 * k9 + 1) (N := L9) (by omega) (by omega)) dL_law_1032 ?_
  refine zz_i (v := v1) ((congrArg xs (nI_clamp (by omega))).trans h1) ?_
  refine lv_aload_n hx hb dL_law_1033 rfl (lv_at hl 3 rfl) ?_
  refine lv_iload_n hx hb dL_law_1034 rfl (lv_at hl 0 rfl) ?_
  refine lv_iconst (v := 2) hx hb dL_law_1035 rfl ?_
  refine lv_iadd hx hb dL_law_1036 ?_
  refine zz_i (v := nI (6 * k9 + 2)) (nI_add (6 * k9) 2) ?_
  refine va_sld hx hb hX hbl hbA hS (vp_in_nI (n := 6 * k9 + 2) (N := L9) (by omega) (by omega)) dL_law_1037 ?_
  refine zz_i (v := v2) ((congrArg xs (nI_clamp (by omega))).trans h2) ?_
  exact k
theorem la_27_1 {p : Program} {e : Env} {s : State} {m : MethodId} {below : List Frame} {meth : Method} {c : Code} (l : Launch) {b L9 : Nat} {xs : Nat → Int32} (C0 : lw_At p s m meth c b L9 xs) {x k0 k9 ce sl : Nat} (hk9 : 6 * k9 + 6 ≤ L9) (hL9 : L9 ≤ 3072) {H : Heap} {locs : List Loc} {ls : Array Slot} {rest : List Value} (hS : va_S (fun q : Nat => s.heap.size ≤ q) s.heap H locs) (hl : lv_has ls 4 [(3, .int (nI (6 * k9))), (2, .ref k0), (1, .ref x), (0, .ref b)]) {v1 : Int32} (h1 : xs (6 * k9 + 1) = v1) (k : W p l e room_1 s m #[Value.ref b] below meth c H locs ce sl (lw_Z below #[Value.ref b] s) (F0 m 1051 ls (.int v1 :: .ref x :: rest))) : W p l e room_1 s m #[Value.ref b] below meth c H locs ce sl (lw_Z below #[Value.ref b] s) (F0 m 1045 ls (rest)) := by
  obtain ⟨hx, hb, hr, hml, hown, hts1, hX, hbl, hlocks, hgv⟩ := id C0
  have hbA : ¬ (fun q : Nat => s.heap.size ≤ q) b := Nat.not_le.mpr hbl
  refine lv_aload_n hx hb dL_law_1045 rfl (lv_at hl 2 rfl) ?_
  refine lv_aload_n hx hb dL_law_1046 rfl (lv_at hl 3 rfl) ?_
  refine lv_iload_n hx hb dL_law_1047 rfl (lv_at hl 0 rfl) ?_
  refine lv_iconst (v := 1) hx hb dL_law_1048 rfl ?_
  refine lv_iadd hx hb dL_law_1049 ?_
  refine zz_i (v := nI (6 * k9 + 1)) (nI_add (6 * k9) 1) ?_
  refine va_sld hx hb hX hbl hbA hS (vp_in_nI (n := 6 * k9 + 1) (N := L9) (by omega) (by omega)) dL_law_1050 ?_
  refine zz_i (v := v1) ((congrArg xs (nI_clamp (by omega))).trans h1) ?_
  exact k
theorem la_27_2 {p : Program} {e : Env} {s : State} {m : MethodId} {below : List Frame} {meth : Method} {c : Code} (l : Launch) {b L9 : Nat} {xs : Nat → Int32} (C0 : lw_At p s m meth c b L9 xs) {x k0 k9 ce sl : Nat} (hk9 : 6 * k9 + 6 ≤ L9) (hL9 : L9 ≤ 3072) {H : Heap} {locs : List Loc} {ls : Array Slot} {rest : List Value} (hS : va_S (fun q : Nat => s.heap.size ≤ q) s.heap H locs) (hl : lv_has ls 4 [(3, .int (nI (6 * k9))), (2, .ref k0), (1, .ref x), (0, .ref b)]) {v1 : Int32} (h1 : xs (6 * k9 + 1) = v1) (k : W p l e room_1 s m #[Value.ref b] below meth c H locs ce sl (lw_Z below #[Value.ref b] s) (F0 m 1061 ls (.int v1 :: .ref k0 :: rest))) : W p l e room_1 s m #[Value.ref b] below meth c H locs ce sl (lw_Z below #[Value.ref b] s) (F0 m 1055 ls (rest)) := by
  obtain ⟨hx, hb, hr, hml, hown, hts1, hX, hbl, hlocks, hgv⟩ := id C0
  have hbA : ¬ (fun q : Nat => s.heap.size ≤ q) b := Nat.not_le.mpr hbl
  refine lv_aload_n hx hb dL_law_1055 rfl (lv_at hl 1 rfl) ?_
  refine lv_aload_n hx hb dL_law_1056 rfl (lv_at hl 3 rfl) ?_
  refine lv_iload_n hx hb dL_law_1057 rfl (lv_at hl 0 rfl) ?_
  refine lv_iconst (v := 1) hx hb dL_law_1058 rfl ?_
  refine lv_iadd hx hb dL_law_1059 ?_
  refine zz_i (v := nI (6 * k9 + 1)) (nI_add (6 * k9) 1) ?_
  refine va_sld hx hb hX hbl hbA hS (vp_in_nI (n := 6 * k9 + 1) (N := L9) (by omega) (by omega)) dL_law_1060 ?_
  refine zz_i (v := v1) ((congrArg xs (nI_clamp (by omega))).trans h1) ?_
  exact k
theorem la_28_1 {p : Program} {e : Env} {s : State} {m : MethodId} {below : List Frame} {meth : Method} {c : Code} (l : Launch) {b L9 : Nat} {xs : Nat → Int32} (C0 : lw_At p s m meth c b L9 xs) {x k0 k9 ce sl : Nat} (hk9 : 6 * k9 + 6 ≤ L9) (hL9 : L9 ≤ 3072) {H : Heap} {locs : List Loc} {ls : Array Slot} {rest : List Value} (hS : va_S (fun q : Nat => s.heap.size ≤ q) s.heap H locs) (hl : lv_has ls 4 [(3, .int (nI (6 * k9))), (2, .ref k0), (1, .ref x), (0, .ref b)]) (k : W p l e room_1 s m #[Value.ref b] below meth c H locs ce sl (lw_Z below #[Value.ref b] s) (F0 m 1069 ls (.ref x :: rest))) : W p l e room_1 s m #[Value.ref b] below meth c H locs ce sl (lw_Z below #[Value.ref b] s) (F0 m 1068 ls (rest)) := by
  obtain ⟨hx, hb, hr, hml, hown, hts1, hX, hbl, hlocks, hgv⟩ := id C0
  have hbA : ¬ (fun q : Nat => s.heap.size ≤ q) b := Nat.not_le.mpr hbl
  refine lv_aload_n hx hb dL_law_1068 rfl (lv_at hl 2 rfl) ?_
  exact k
theorem la_28_2 {p : Program} {e : Env} {s : State} {m : MethodId} {below : List Frame} {meth : Method} {c : Code} (l : Launch) {b L9 : Nat} {xs : Nat → Int32} (C0 : lw_At p s m meth c b L9 xs) {x k0 k9 ce sl : Nat} (hk9 : 6 * k9 + 6 ≤ L9) (hL9 : L9 ≤ 3072) {H : Heap} {locs : List Loc} {ls : Array Slot} {rest : List Value} (hS : va_S (fun q : Nat => s.heap.size ≤ q) s.heap H locs) (hl : lv_has ls 4 [(3, .int (nI (6 * k9))), (2, .ref k0), (1, .ref x), (0, .ref b)]) (k : W p l e room_1 s m #[Value.ref b] below meth c H locs ce sl (lw_Z below #[Value.ref b] s) (F0 m 1074 ls (.ref k0 :: rest))) : W p l e room_1 s m #[Value.ref b] below meth c H locs ce sl (lw_Z below #[Value.ref b] s) (F0 m 1073 ls (rest)) := by
  obtain ⟨hx, hb, hr, hml, hown, hts1, hX, hbl, hlocks, hgv⟩ := id C0
  have hbA : ¬ (fun q : Nat => s.heap.size ≤ q) b := Nat.not_le.mpr hbl
  refine lv_aload_n hx hb dL_law_1073 rfl (lv_at hl 1 rfl) ?_
  exact k
end
