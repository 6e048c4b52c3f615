section
theorem la_0_1 {p : Program} {e : Env} {s : State} {m : MethodId} {below : List Frame} {meth : Method} {c : Code} (l : Launch) {b L9 : Nat} {xs : Nat → Int32} (C0 : lw_At p s m meth c b L9 xs) {x k0 k9 ce sl : Nat} (hk9 : 6 * k9 + 6 ≤ L9) (hL9 : L9 ≤ 3072) {H : Heap} {locs : List Loc} {ls : Array Slot} {rest : List Value} (hS : va_S (fun q : Nat => s.heap.size ≤ q) s.heap H locs) (hl : lv_has ls 4 [(3, .int (nI (6 * k9))), (2, .ref k0), (1, .ref x), (0, .ref b)]) {v1 : Int32} {v2 : Int32} {v3 : Int32} {v4 : Int32} (h1 : xs (6 * k9 + 1) = v1) (h2 : xs (6 * k9 + 2) = v2) (h3 : xs (6 * k9 + 3) = v3) (h4 : xs (6 * k9 + 4) = v4) (k : W p l e room_1 s m #[Value.ref b] below meth c H locs ce sl (lw_Z below #[Value.ref b] s) (F0 m 185 ls (.int v4 :: .int v3 :: .int v2 :: .int v1 :: .ref x :: rest))) : W p l e room_1 s m #[Value.ref b] below meth c H locs ce sl (lw_Z below #[Value.ref b] s) (F0 m 164 ls (rest)) := by
  obtain ⟨hx, hb, hr, hml, hown, hts1, hX, hbl, hlocks, hgv⟩ := id C0
  have hbA : ¬ (fun q : Nat => s.heap.size ≤ q) b := Nat.not_le.mpr hbl
  refine lv_aload_n hx hb dL_law_164 rfl (lv_at hl 2 rfl) ?_
  refine lv_aload_n hx hb dL_law_165 rfl (lv_at hl 3 rfl) ?_
  refine lv_iload_n hx hb dL_law_166 rfl (lv_at hl 0 rfl) ?_
  refine lv_iconst (v := 1) hx hb dL_law_167 rfl ?_
  refine lv_iadd hx hb dL_law_168 ?_
  refine zz_i (v := nI (6 * k9 + 1)) (nI_add (6 * k9) 1) ?_
  refine va_sld hx hb hX hbl hbA hS (vp_in_nI (n := 6 * k9 + 1) (N := L9) (by omega) (by omega)) dL_law_169 ?_
  refine zz_i (v := v1) ((congrArg xs (nI_clamp (by omega))).trans h1) ?_
  refine lv_aload_n hx hb dL_law_170 rfl (lv_at hl 3 rfl) ?_
  refine lv_iload_n hx hb dL_law_171 rfl (lv_at hl 0 rfl) ?_
  refine lv_iconst (v := 2) hx hb dL_law_172 rfl ?_
  refine lv_iadd hx hb dL_law_173 ?_
  refine zz_i (v := nI (6 * k9 + 2)) (nI_add (6 * k9) 2) ?_
  refine va_sld hx hb hX hbl hbA hS (vp_in_nI (n := 6 * k9 + 2) (N := L9) (by omega) (by omega)) dL_law_174 ?_
  refine zz_i (v := v2) ((congrArg xs (nI_clamp (by omega))).trans h2) ?_
  refine lv_aload_n hx hb dL_law_175 rfl (lv_at hl 3 rfl) ?_
  refine lv_iload_n hx hb dL_law_176 rfl (lv_at hl 0 rfl) ?_
  refine lv_iconst (v := 3) hx hb dL_law_177 rfl ?_
  refine lv_iadd hx hb dL_law_178 ?_
  refine zz_i (v := nI (6 * k9 + 3)) (nI_add (6 * k9) 3) ?_
  refine va_sld hx hb hX hbl hbA hS (vp_in_nI (n := 6 * k9 + 3) (N := L9) (by omega) (by omega)) dL_law_179 ?_
  refine zz_i (v := v3) ((congrArg xs (nI_clamp (by omega))).trans h3) ?_
  refine lv_aload_n hx hb dL_law_180 rfl (lv_at hl 3 rfl) ?_
  refine lv_iload_n hx hb dL_law_181 rfl (lv_at hl 0 rfl) ?_
  refine lv_iconst (v := 4) hx hb dL_law_182 rfl ?_
  refine lv_iadd hx hb dL_law_183 ?_
  refine zz_i (v := nI (6 * k9 + 4)) (nI_add (6 * k9) 4) ?_
  refine va_sld hx hb hX hbl hbA hS (vp_in_nI (n := 6 * k9 + 4) (N := L9) (by omega) (by omega)) dL_law_184 ?_
  refine zz_i (v := v4) ((congrArg xs (nI_clamp (by omega))).trans h4) ?_
  exact k
theorem la_0_2 {p : Program} {e : Env} {s : State} {m : MethodId} {below : List Frame} {meth : Method} {c : Code} (l : Launch) {b L9 : Nat} {xs : Nat → Int32} (C0 : lw_At p s m meth c b L9 xs) {x k0 k9 ce sl : Nat} (hk9 : 6 * k9 + 6 ≤ L9) (hL9 : L9 ≤ 3072) {H : Heap} {locs : List Loc} {ls : Array Slot} {rest : List Value} (hS : va_S (fun q : Nat => s.heap.size ≤ q) s.heap H locs) (hl : lv_has ls 4 [(3, .int (nI (6 * k9))), (2, .ref k0), (1, .ref x), (0, .ref b)]) {v1 : Int32} {v2 : Int32} {v3 : Int32} {v4 : Int32} (h1 : xs (6 * k9 + 1) = v1) (h2 : xs (6 * k9 + 2) = v2) (h3 : xs (6 * k9 + 3) = v3) (h4 : xs (6 * k9 + 4) = v4) (k : W p l e room_1 s m #[Value.ref b] below meth c H locs ce sl (lw_Z below #[Value.ref b] s) (F0 m 210 ls (.int v4 :: .int v3 :: .int v2 :: .int v1 :: .ref k0 :: rest))) : W p l e room_1 s m #[Value.ref b] below meth c H locs ce sl (lw_Z below #[Value.ref b] s) (F0 m 189 ls (rest)) := by
  obtain ⟨hx, hb, hr, hml, hown, hts1, hX, hbl, hlocks, hgv⟩ := id C0
  have hbA : ¬ (fun q : Nat => s.heap.size ≤ q) b := Nat.not_le.mpr hbl
  refine lv_aload_n hx hb dL_law_189 rfl (lv_at hl 1 rfl) ?_
  refine lv_aload_n hx hb dL_law_190 rfl (lv_at hl 3 rfl) ?_
  refine lv_iload_n hx hb dL_law_191 rfl (lv_at hl 0 rfl) ?_
  refine lv_iconst (v := 1) hx hb dL_law_192 rfl ?_
  refine lv_iadd hx hb dL_law_193 ?_
  refine zz_i (v := nI (6 * k9 + 1)) (nI_add (6 * k9) 1) ?_
  refine va_sld hx hb hX hbl hbA hS (vp_in_nI (n := 6 * k9 + 1) (N := L9) (by omega) (by omega)) dL_law_194 ?_
  refine zz_i (v := v1) ((congrArg xs (nI_clamp (by omega))).trans h1) ?_
  refine lv_aload_n hx hb dL_law_195 rfl (lv_at hl 3 rfl) ?_
  refine lv_iload_n hx hb dL_law_196 rfl (lv_at hl 0 rfl) ?_
  refine lv_iconst (v := 2) hx hb dL_law_197 rfl ?_
  refine lv_iadd hx hb dL_law_198 ?_
  refine zz_i (v := nI (6 * k9 + 2)) (nI_add (6 * k9) 2) ?_
  refine va_sld hx hb hX hbl hbA hS (vp_in_nI (n := 6 * k9 + 2) (N := L9) (by omega) (by omega)) dL_law_199 ?_
  refine zz_i (v := v2) ((congrArg xs (nI_clamp (by omega))).trans h2) ?_
  refine lv_aload_n hx hb dL_law_200 rfl (lv_at hl 3 rfl) ?_
  refine lv_iload_n hx hb dL_law_201 rfl (lv_at hl 0 rfl) ?_
  refine lv_iconst (v := 3) hx hb dL_law_202 rfl ?_
  refine lv_iadd hx hb dL_law_203 ?_
  refine zz_i (v := nI (6 * k9 + 3)) (nI_add (6 * k9) 3) ?_
  refine va_sld hx hb hX hbl hbA hS (vp_in_nI (n := 6 * k9 + 3) (N := L9) (by omega) (by omega)) dL_law_204 ?_
  refine zz_i (v := v3) ((congrArg xs (nI_clamp (by omega))).trans h3) ?_
  refine lv_aload_n hx hb dL_law_205 rfl (lv_at hl 3 rfl) ?_
  refine lv_iload_n hx hb dL_law_206 rfl (lv_at hl 0 rfl) ?_
  refine lv_iconst (v := 4) hx hb dL_law_207 rfl ?_
  refine lv_iadd hx hb dL_law_208 ?_
  refine zz_i (v := nI (6 * k9 + 4)) (nI_add (6 * k9) 4) ?_
  refine va_sld hx hb hX hbl hbA hS (vp_in_nI (n := 6 * k9 + 4) (N := L9) (by omega) (by omega)) dL_law_209 ?_
  refine zz_i (v := v4) ((congrArg xs (nI_clamp (by omega))).trans h4) ?_
  exact k
theorem la_1_1 {p : Program} {e : Env} {s : State} {m : MethodId} {below : List Frame} {meth : Method} {c : Code} (l : Launch) {b L9 : Nat} {xs : Nat → Int32} (C0 : lw_At p s m meth c b L9 xs) {x k0 k9 ce sl : Nat} (hk9 : 6 * k9 + 6 ≤ L9) (hL9 : L9 ≤ 3072) {H : Heap} {locs : List Loc} {ls : Array Slot} {rest : List Value} (hS : va_S (fun q : Nat => s.heap.size ≤ q) s.heap H locs) (hl : lv_has ls 4 [(3, .int (nI (6 * k9))), (2, .ref k0), (1, .ref x), (0, .ref b)]) {v1 : Int32} {v2 : Int32} {v3 : Int32} (h1 : xs (6 * k9 + 1) = v1) (h2 : xs (6 * k9 + 2) = v2) (h3 : xs (6 * k9 + 3) = v3) (k : W p l e room_1 s m #[Value.ref b] below meth c H locs ce sl (lw_Z below #[Value.ref b] s) (F0 m 233 ls (.int v3 :: .int v2 :: .int v1 :: .ref x :: rest))) : W p l e room_1 s m #[Value.ref b] below meth c H locs ce sl (lw_Z below #[Value.ref b] s) (F0 m 217 ls (rest)) := by
  obtain ⟨hx, hb, hr, hml, hown, hts1, hX, hbl, hlocks, hgv⟩ := id C0
  have hbA : ¬ (fun q : Nat => s.heap.size ≤ q) b := Nat.not_le.mpr hbl
  refine lv_aload_n hx hb dL_law_217 rfl (lv_at hl 2 rfl) ?_
  refine lv_aload_n hx hb dL_law_218 rfl (lv_at hl 3 rfl) ?_
  refine lv_iload_n hx hb dL_law_219 rfl (lv_at hl 0 rfl) ?_
  refine lv_iconst (v := 1) hx hb dL_law_220 rfl ?_
  refine lv_iadd hx hb dL_law_221 ?_
  refine zz_i (v := nI (6 * k9 + 1)) (nI_add (6 * k9) 1) ?_
  refine va_sld hx hb hX hbl hbA hS (vp_in_nI (n := 6 * k9 + 1) (N := L9) (by omega) (by omega)) dL_law_222 ?_
  refine zz_i (v := v1) ((congrArg xs (nI_clamp (by omega))).trans h1) ?_
  refine lv_aload_n hx hb dL_law_223 rfl (lv_at hl 3 rfl) ?_
  refine lv_iload_n hx hb dL_law_224 rfl (lv_at hl 0 rfl) ?_
  refine lv_iconst (v := 2) hx hb dL_law_225 rfl ?_
  refine lv_iadd hx hb dL_law_226 ?_
  refine zz_i (v := nI (6 * k9 + 2)) (nI_add (6 * k9) 2) ?_
  refine va_sld hx hb hX hbl hbA hS (vp_in_nI (n := 6 * k9 + 2) (N := L9) (by omega) (by omega)) dL_law_227 ?_
  refine zz_i (v := v2) ((congrArg xs (nI_clamp (by omega))).trans h2) ?_
  refine lv_aload_n hx hb dL_law_228 rfl (lv_at hl 3 rfl) ?_
  refine lv_iload_n hx hb dL_law_229 rfl (lv_at hl 0 rfl) ?_
  refine lv_iconst (v := 3) hx hb dL_law_230 rfl ?_
  refine lv_iadd hx hb dL_law_231 ?_
  refine zz_i (v := nI (6 * k9 + 3)) (nI_add (6 * k9) 3) ?_
  refine va_sld hx hb hX hbl hbA hS (vp_in_nI (n := 6 * k9 + 3) (N := L9) (by omega) (by omega)) dL_law_232 ?_
  refine zz_i (v := v3) ((congrArg xs (nI_clamp (by omega))).trans h3) ?_
  exact k
theorem la_1_2 {p : Program} {e : Env} {s : State} {m : MethodId} {below : List Frame} {meth : Method} {c : Code} (l : Launch) {b L9 : Nat} {xs : Nat → Int32} (C0 : lw_At p s m meth c b L9 xs) {x k0 k9 ce sl : Nat} (hk9 : 6 * k9 + 6 ≤ L9) (hL9 : L9 ≤ 3072) {H : Heap} {locs : List Loc} {ls : Array Slot} {rest : List Value} (hS : va_S (fun q : Nat => s.heap.size ≤ q) s.heap H locs) (hl : lv_has ls 4 [(3, .int (nI (6 * k9))), (2, .ref k0), (1, .ref x), (0, .ref b)]) {v1 : Int32} {v2 : Int32} {v3 : Int32} (h1 : xs (6 * k9 + 1) = v1) (h2 : xs (6 * k9 + 2) = v2) (h3 : xs (6 * k9 + 3) = v3) (k : W p l e room_1 s m #[Value.ref b] below meth c H locs ce sl (lw_Z below #[Value.ref b] s) (F0 m 253 ls (.int v3 :: .int v2 :: .int v1 :: .ref k0 :: rest))) : W p l e room_1 s m #[Value.ref b] below meth c H locs ce sl (lw_Z below #[Value.ref b] s) (F0 m 237 ls (rest)) := by
  obtain ⟨hx, hb, hr, hml, hown, hts1, hX, hbl, hlocks, hgv⟩ := id C0
  have hbA : ¬ (fun q : Nat => s.heap.size ≤ q) b := Nat.not_le.mpr hbl
  refine lv_aload_n hx hb dL_law_237 rfl (lv_at hl 1 rfl) ?_
  refine lv_aload_n hx hb dL_law_238 rfl (lv_at hl 3 rfl) ?_
  refine lv_iload_n hx hb dL_law_239 rfl (lv_at hl 0 rfl) ?_
  refine lv_iconst (v := 1) hx hb dL_law_240 rfl ?_
  refine lv_iadd hx hb dL_law_241 ?_
  refine zz_i (v := nI (6 * k9 + 1)) (nI_add (6 * k9) 1) ?_
  refine va_sld hx hb hX hbl hbA hS (vp_in_nI (n := 6 * k9 + 1) (N := L9) (by omega) (by omega)) dL_law_242 ?_
  refine zz_i (v := v1) ((congrArg xs (nI_clamp (by omega))).trans h1) ?_
  refine lv_aload_n hx hb dL_law_243 rfl (lv_at hl 3 rfl) ?_
  refine lv_iload_n hx hb dL_law_244 rfl (lv_at hl 0 rfl) ?_
  refine lv_iconst (v := 2) hx hb dL_law_245 rfl ?_
  refine lv_iadd hx hb dL_law_246 ?_
  refine zz_i (v := nI (6 * k9 + 2)) (nI_add (6 * k9) 2) ?_
  refine va_sld hx hb hX hbl hbA hS (vp_in_nI (n := 6 * k9 + 2) (N := L9) (by omega) (by omega)) dL_law_247 ?_
  refine zz_i (v := v2) ((congrArg xs (nI_clamp (by omega))).trans h2) ?_
  refine lv_aload_n hx hb dL_law_248 rfl (lv_at hl 3 rfl) ?_
  refine lv_iload_n hx hb dL_law_249 rfl (lv_at hl 0 rfl) ?_
  refine lv_iconst (v := 3) hx hb dL_law_250 rfl ?_
  refine lv_iadd hx hb dL_law_251 ?_
  refine zz_i (v := nI (6 * k9 + 3)) (nI_add (6 * k9) 3) ?_
  refine va_sld hx hb hX hbl hbA hS (vp_in_nI (n := 6 * k9 + 3) (N := L9) (by omega) (by omega)) dL_law_252 ?_
  refine zz_i (v := v3) ((congrArg xs (nI_clamp (by omega))).trans h3) ?_
  exact k
theorem la_2_1 {p : Program} {e : Env} {s : State} {m : MethodId} {below : List Frame} {meth : Method} {c : Code} (l : Launch) {b L9 : Nat} {xs : Nat → Int32} (C0 : lw_At p s m meth c b L9 xs) {x k0 k9 ce sl : Nat} (hk9 : 6 * k9 + 6 ≤ L9) (hL9 : L9 ≤ 3072) {H : Heap} {locs : List Loc} {ls : Array Slot} {rest : List Value} (hS : va_S (fun q : Nat => s.heap.size ≤ q) s.heap H locs) (hl : lv_has ls 4 [(3, .int (nI (6 * k9))), (2, .ref k0), (1, .ref x), (0, .ref b)]) {v1 : Int32} (h1 : xs (6 * k9 + 1) = v1) (k : W p l e room_1 s m #[Value.ref b] below meth c H locs ce sl (lw_Z below #[Value.ref b] s) (F0 m 266 ls (.int v1 :: .ref x :: rest))) : W p l e room_1 s m #[Value.ref b] below meth c H locs ce sl (lw_Z below #[Value.ref b] s) (F0 m 260 ls (rest)) := by
  obtain ⟨hx, hb, hr, hml, hown, hts1, hX, hbl, hlocks, hgv⟩ := id C0
  have hbA : ¬ (fun q : Nat => s.heap.size ≤ q) b := Nat.not_le.mpr hbl
  refine lv_aload_n hx hb dL_law_260 rfl (lv_at hl 2 rfl) ?_
  refine lv_aload_n hx hb dL_law_261 rfl (lv_at hl 3 rfl) ?_
  refine lv_iload_n hx hb dL_law_262 rfl (lv_at hl 0 rfl) ?_
  refine lv_iconst (v := 1) hx hb dL_law_263 rfl ?_
  refine lv_iadd hx hb dL_law_264 ?_
  refine zz_i (v := nI (6 * k9 + 1)) (nI_add (6 * k9) 1) ?_
  refine va_sld hx hb hX hbl hbA hS (vp_in_nI (n := 6 * k9 + 1) (N := L9) (by omega) (by omega)) dL_law_265 ?_
  refine zz_i (v := v1) ((congrArg xs (nI_clamp (by omega))).trans h1) ?_
  exact k
theorem la_2_2 {p : Program} {e : Env} {s : State} {m : MethodId} {below : List Frame} {meth : Method} {c : Code} (l : Launch) {b L9 : Nat} {xs : Nat → Int32} (C0 : lw_At p s m meth c b L9 xs) {x k0 k9 ce sl : Nat} (hk9 : 6 * k9 + 6 ≤ L9) (hL9 : L9 ≤ 3072) {H : Heap} {locs : List Loc} {ls : Array Slot} {rest : List Value} (hS : va_S (fun q : Nat => s.heap.size ≤ q) s.heap H locs) (hl : lv_has ls 4 [(3, .int (nI (6 * k9))), (2, .ref k0), (1, .ref x), (0, .ref b)]) {v1 : Int32} (h1 : xs (6 * k9 + 1) = v1) (k : W p l e room_1 s m #[Value.ref b] below meth c H locs ce sl (lw_Z below #[Value.ref b] s) (F0 m 275 ls (.int v1 :: .ref k0 :: rest))) : W p l e room_1 s m #[Value.ref b] below meth c H locs ce sl (lw_Z below #[Value.ref b] s) (F0 m 269 ls (rest)) := by
  obtain ⟨hx, hb, hr, hml, hown, hts1, hX, hbl, hlocks, hgv⟩ := id C0
  have hbA : ¬ (fun q : Nat => s.heap.size ≤ q) b := Nat.not_le.mpr hbl
  refine lv_aload_n hx hb dL_law_269 rfl (lv_at hl 1 rfl) ?_
  refine lv_aload_n hx hb dL_law_270 rfl (lv_at hl 3 rfl) ?_
  refine lv_iload_n hx hb dL_law_271 rfl (lv_at hl 0 rfl) ?_
  refine lv_iconst (v := 1) hx hb dL_law_272 rfl ?_
  refine lv_iadd hx hb dL_law_273 ?_
  refine zz_i (v := nI (6 * k9 + 1)) (nI_add (6 * k9) 1) ?_
  refine va_sld hx hb hX hbl hbA hS (vp_in_nI (n := 6 * k9 + 1) (N := L9) (by omega) (by omega)) dL_law_274 ?_
  refine zz_i (v := v1) ((congrArg xs (nI_clamp (by omega))).trans h1) ?_
  exact k
theorem la_3_1 {p : Program} {e : Env} {s : State} {m : MethodId} {below : List Frame} {meth : Method} {c : Code} (l : Launch) {b L9 : Nat} {xs : Nat → Int32} (C0 : lw_At p s m meth c b L9 xs) {x k0 k9 ce sl : Nat} (hk9 : 6 * k9 + 6 ≤ L9) (hL9 : L9 ≤ 3072) {H : Heap} {locs : List Loc} {ls : Array Slot} {rest : List Value} (hS : va_S (fun q : Nat => s.heap.size ≤ q) s.heap H locs) (hl : lv_has ls 4 [(3, .int (nI (6 * k9))), (2, .ref k0), (1, .ref x), (0, .ref b)]) {v1 : Int32} (h1 : xs (6 * k9 + 1) = v1) (k : W p l e room_1 s m #[Value.ref b] below meth c H locs ce sl (lw_Z below #[Value.ref b] s) (F0 m 289 ls (.int v1 :: .ref x :: rest))) : W p l e room_1 s m #[Value.ref b] below meth c H locs ce sl (lw_Z below #[Value.ref b] s) (F0 m 283 ls (rest)) := by
  obtain ⟨hx, hb, hr, hml, hown, hts1, hX, hbl, hlocks, hgv⟩ := id C0
  have hbA : ¬ (fun q : Nat => s.heap.size ≤ q) b := Nat.not_le.mpr hbl
  refine lv_aload_n hx hb dL_law_283 rfl (lv_at hl 2 rfl) ?_
  refine lv_aload_n hx hb dL_law_284 rfl (lv_at hl 3 rfl) ?_
  refine lv_iload_n hx hb dL_law_285 rfl (lv_at hl 0 rfl) ?_
  refine lv_iconst (v := 1) hx hb dL_law_286 rfl ?_
  refine lv_iadd hx hb dL_law_287 ?_
  refine zz_i (v := nI (6 * k9 + 1)) (nI_add (6 * k9) 1) ?_
  refine va_sld hx hb hX hbl hbA hS (vp_in_nI (n := 6 * k9 + 1) (N := L9) (by omega) (by omega)) dL_law_288 ?_
  refine zz_i (v := v1) ((congrArg xs (nI_clamp (by omega))).trans h1) ?_
  exact k
theorem la_3_2 {p : Program} {e : Env} {s : State} {m : MethodId} {below : List Frame} {meth : Method} {c : Code} (l : Launch) {b L9 : Nat} {xs : Nat → Int32} (C0 : lw_At p s m meth c b L9 xs) {x k0 k9 ce sl : Nat} (hk9 : 6 * k9 + 6 ≤ L9) (hL9 : L9 ≤ 3072) {H : Heap} {locs : List Loc} {ls : Array Slot} {rest : List Value} (hS : va_S (fun q : Nat => s.heap.size ≤ q) s.heap H locs) (hl : lv_has ls 4 [(3, .int (nI (6 * k9))), (2, .ref k0), (1, .ref x), (0, .ref b)]) {v1 : Int32} (h1 : xs (6 * k9 + 1) = v1) (k : W p l e room_1 s m #[Value.ref b] below meth c H locs ce sl (lw_Z below #[Value.ref b] s) (F0 m 299 ls (.int v1 :: .ref k0 :: rest))) : W p l e room_1 s m #[Value.ref b] below meth c H locs ce sl (lw_Z below #[Value.ref b] s) (F0 m 293 ls (rest)) := by
  obtain ⟨hx, hb, hr, hml, hown, hts1, hX, hbl, hlocks, hgv⟩ := id C0
  have hbA : ¬ (fun q : Nat => s.heap.size ≤ q) b := Nat.not_le.mpr hbl
  refine lv_aload_n hx hb dL_law_293 rfl (lv_at hl 1 rfl) ?_
  refine lv_aload_n hx hb dL_law_294 rfl (lv_at hl 3 rfl) ?_
  refine lv_iload_n hx hb dL_law_295 rfl (lv_at hl 0 rfl) ?_
  refine lv_iconst (v := 1) hx hb dL_law_296 rfl ?_
  refine lv_iadd hx hb dL_law_297 ?_
  refine zz_i (v := nI (6 * k9 + 1)) (nI_add (6 * k9) 1) ?_
  refine va_sld hx hb hX hbl hbA hS (vp_in_nI (n := 6 * k9 + 1) (N := L9) (by omega) (by omega)) dL_law_298 ?_
  refine zz_i (v := v1) ((congrArg xs (nI_clamp (by omega))).trans h1) ?_
  exact k
theorem la_4_1 {p : Program} {e : Env} {s : State} {m : MethodId} {below : List Frame} {meth : Method} {c : Code} (l : Launch) {b L9 : Nat} {xs : Nat → Int32} (C0 : lw_At p s m meth c b L9 xs) {x k0 k9 ce sl : Nat} (hk9 : 6 * k9 + 6 ≤ L9) (hL9 : L9 ≤ 3072) {H : Heap} {locs : List Loc} {ls : Array Slot} {rest : List Value} (hS : va_S (fun q : Nat => s.heap.size ≤ q) s.heap H locs) (hl : lv_has ls 4 [(3, .int (nI (6 * k9))), (2, .ref k0), (1, .ref x), (0, .ref b)]) {v1 : Int32} {v2 : Int32} (h1 : xs (6 * k9 + 1) = v1) (h2 : xs (6 * k9 + 2) = v2) (k : W p l e room_1 s m #[Value.ref b] below meth c H locs ce sl (lw_Z below #[Value.ref b] s) (F0 m 317 ls (.int v2 :: .int v1 :: .ref x :: rest))) : W p l e room_1 s m #[Value.ref b] below meth c H locs ce sl (lw_Z below #[Value.ref b] s) (F0 m 306 ls (rest)) := by
  obtain ⟨hx, hb, hr, hml, hown, hts1, hX, hbl, hlocks, hgv⟩ := id C0
  have hbA : ¬ (fun q : Nat => s.heap.size ≤ q) b := Nat.not_le.mpr hbl
  refine lv_aload_n hx hb dL_law_306 rfl (lv_at hl 2 rfl) ?_
  refine lv_aload_n hx hb dL_law_307 rfl (lv_at hl 3 rfl) ?_
  refine lv_iload_n hx hb dL_law_308 rfl (lv_at hl 0 rfl) ?_
  refine lv_iconst (v := 1) hx hb dL_law_309 rfl ?_
  refine lv_iadd hx hb dL_law_310 ?_
  refine zz_i (v := nI (6 * k9 + 1)) (nI_add (6 * k9) 1) ?_
  refine va_sld hx hb hX hbl hbA hS (vp_in_nI (n := 6 * k9 + 1) (N := L9) (by omega) (by omega)) dL_law_311 ?_
  refine zz_i (v := v1) ((congrArg xs (nI_clamp (by omega))).trans h1) ?_
  refine lv_aload_n hx hb dL_law_312 rfl (lv_at hl 3 rfl) ?_
  refine lv_iload_n hx hb dL_law_313 rfl (lv_at hl 0 rfl) ?_
  refine lv_iconst (v := 2) hx hb dL_law_314 rfl ?_
  refine lv_iadd hx hb dL_law_315 ?_
  refine zz_i (v := nI (6 * k9 + 2)) (nI_add (6 * k9) 2) ?_
  refine va_sld hx hb hX hbl hbA hS (vp_in_nI (n := 6 * k9 + 2) (N := L9) (by omega) (by omega)) dL_law_316 ?_
  refine zz_i (v := v2) ((congrArg xs (nI_clamp (by omega))).trans h2) ?_
  exact k
theorem la_4_2 {p : Program} {e : Env} {s : State} {m : MethodId} {below : List Frame} {meth : Method} {c : Code} (l : Launch) {b L9 : Nat} {xs : Nat → Int32} (C0 : lw_At p s m meth c b L9 xs) {x k0 k9 ce sl : Nat} (hk9 : 6 * k9 + 6 ≤ L9) (hL9 : L9 ≤ 3072) {H : Heap} {locs : List Loc} {ls : Array Slot} {rest : List Value} (hS : va_S (fun q : Nat => s.heap.size ≤ q) s.heap H locs) (hl : lv_has ls 4 [(3, .int (nI (6 * k9))), (2, .ref k0), (1, .ref x), (0, .ref b)]) {v1 : Int32} {v2 : Int32} (h1 : xs (6 * k9 + 1) = v1) (h2 : xs (6 * k9 + 2) = v2) (k : W p l e room_1 s m #[Value.ref b] below meth c H locs ce sl (lw_Z below #[Value.ref b] s) (F0 m 332 ls (.int v2 :: .int v1 :: .ref k0 :: rest))) : W p l e room_1 s m #[Value.ref b] below meth c H locs ce sl (lw_Z below #[Value.ref b] s) (F0 m 321 ls (rest)) := by
  obtain ⟨hx, hb, hr, hml, hown, hts1, hX, hbl, hlocks, hgv⟩ := id C0
  have hbA : ¬ (fun q : Nat => s.heap.size ≤ q) b := Nat.not_le.mpr hbl
  refine lv_aload_n hx hb dL_law_321 rfl (lv_at hl 1 rfl) ?_
  refine lv_aload_n hx hb dL_law_322 rfl (lv_at hl 3 rfl) ?_
  refine lv_iload_n hx hb dL_law_323 rfl (lv_at hl 0 rfl) ?_
  refine lv_iconst (v := 1) hx hb dL_law_324 rfl ?_
  refine lv_iadd hx hb dL_law_325 ?_
  refine zz_i (v := nI (6 * k9 + 1)) (nI_add (6 * k9) 1) ?_
  refine va_sld hx hb hX hbl hbA hS (vp_in_nI (n := 6 * k9 + 1) (N := L9) (by omega) (by omega)) dL_law_326 ?_
  refine zz_i (v := v1) ((congrArg xs (nI_clamp (by omega))).trans h1) ?_
  refine lv_aload_n hx hb dL_law_327 rfl (lv_at hl 3 rfl) ?_
  refine lv_iload_n hx hb dL_law_328 rfl (lv_at hl 0 rfl) ?_
  refine lv_iconst (v := 2) hx hb dL_law_329 rfl ?_
  refine lv_iadd hx hb dL_law_330 ?_
  refine zz_i (v := nI (6 * k9 + 2)) (nI_add (6 * k9) 2) ?_
  refine va_sld hx hb hX hbl hbA hS (vp_in_nI (n := 6 * k9 + 2) (N := L9) (by omega) (by omega)) dL_law_331 ?_
  refine zz_i (v := v2) ((congrArg xs (nI_clamp (by omega))).trans h2) ?_
  exact k
theorem la_5_1 {p : Program} {e : Env} {s : State} {m : MethodId} {below : List Frame} {meth : Method} {c : Code} (l : Launch) {b L9 : Nat} {xs : Nat → Int32} (C0 : lw_At p s m meth c b L9 xs) {x k0 k9 ce sl : Nat} (hk9 : 6 * k9 + 6 ≤ L9) (hL9 : L9 ≤ 3072) {H : Heap} {locs : List Loc} {ls : Array Slot} {rest : List Value} (hS : va_S (fun q : Nat => s.heap.size ≤ q) s.heap H locs) (hl : lv_has ls 4 [(3, .int (nI (6 * k9))), (2, .ref k0), (1, .ref x), (0, .ref b)]) {v1 : Int32} (h1 : xs (6 * k9 + 1) = v1) (k : W p l e room_1 s m #[Value.ref b] below meth c H locs ce sl (lw_Z below #[Value.ref b] s) (F0 m 345 ls (.int v1 :: .ref x :: rest))) : W p l e room_1 s m #[Value.ref b] below meth c H locs ce sl (lw_Z below #[Value.ref b] s) (F0 m 339 ls (rest)) := by
  obtain ⟨hx, hb, hr, hml, hown, hts1, hX, hbl, hlocks, hgv⟩ := id C0
  have hbA : ¬ (fun q : Nat => s.heap.size ≤ q) b := Nat.not_le.mpr hbl
  refine lv_aload_n hx hb dL_law_339 rfl (lv_at hl 2 rfl) ?_
  refine lv_aload_n hx hb dL_law_340 rfl (lv_at hl 3 rfl) ?_
  refine lv_iload_n hx hb dL_law_341 rfl (lv_at hl 0 rfl) ?_
  refine lv_iconst (v := 1) hx hb dL_law_342 rfl ?_
  refine lv_iadd hx hb dL_law_343 ?_
  refine zz_i (v := nI (6 * k9 + 1)) (nI_add (6 * k9) 1) ?_
  refine va_sld hx hb hX hbl hbA hS (vp_in_nI (n := 6 * k9 + 1) (N := L9) (by omega) (by omega)) dL_law_344 ?_
  refine zz_i (v := v1) ((congrArg xs (nI_clamp (by omega))).trans h1) ?_
  exact k
theorem la_5_2 {p : Program} {e : Env} {s : State} {m : MethodId} {below : List Frame} {meth : Method} {c : Code} (l : Launch) {b L9 : Nat} {xs : Nat → Int32} (C0 : lw_At p s m meth c b L9 xs) {x k0 k9 ce sl : Nat} (hk9 : 6 * k9 + 6 ≤ L9) (hL9 : L9 ≤ 3072) {H : Heap} {locs : List Loc} {ls : Array Slot} {rest : List Value} (hS : va_S (fun q : Nat => s.heap.size ≤ q) s.heap H locs) (hl : lv_has ls 4 [(3, .int (nI (6 * k9))), (2, .ref k0), (1, .ref x), (0, .ref b)]) {v1 : Int32} (h1 : xs (6 * k9 + 1) = v1) (k : W p l e room_1 s m #[Value.ref b] below meth c H locs ce sl (lw_Z below #[Value.ref b] s) (F0 m 355 ls (.int v1 :: .ref k0 :: rest))) : W p l e room_1 s m #[Value.ref b] below meth c H locs ce sl (lw_Z below #[Value.ref b] s) (F0 m 349 ls (rest)) := by
  obtain ⟨hx, hb, hr, hml, hown, hts1, hX, hbl, hlocks, hgv⟩ := id C0
  have hbA : ¬ (fun q : Nat => s.heap.size ≤ q) b := Nat.not_le.mpr hbl
  refine lv_aload_n hx hb dL_law_349 rfl (lv_at hl 1 rfl) ?_
  refine lv_aload_n hx hb dL_law_350 rfl (lv_at hl 3 rfl) ?_
  refine lv_iload_n hx hb dL_law_351 rfl (lv_at hl 0 rfl) ?_
  refine lv_iconst (v := 1) hx hb dL_law_352 rfl ?_
  refine lv_iadd hx hb dL_law_353 ?_
  refine zz_i (v := nI (6 * k9 + 1)) (nI_add (6 * k9) 1) ?_
  refine va_sld hx hb hX hbl hbA hS (vp_in_nI (n := 6 * k9 + 1) (N := L9) (by omega) (by omega)) dL_law_354 ?_
  refine zz_i (v := v1) ((congrArg xs (nI_clamp (by omega))).trans h1) ?_
  exact k
theorem la_6_1 {p : Program} {e : Env} {s : State} {m : MethodId} {below : List Frame} {meth : Method} {c : Code} (l : Launch) {b L9 : Nat} {xs : Nat → Int32} (C0 : lw_At p s m meth c b L9 xs) {x k0 k9 ce sl : Nat} (hk9 : 6 * k9 + 6 ≤ L9) (hL9 : L9 ≤ 3072) {H : Heap} {locs : List Loc} {ls : Array Slot} {rest : List Value} (hS : va_S (fun q : Nat => s.heap.size ≤ q) s.heap H locs) (hl : lv_has ls 4 [(3, .int (nI (6 * k9))), (2, .ref k0), (1, .ref x), (0, .ref b)]) {v1 : Int32} {v2 : Int32} {v3 : Int32} {v4 : Int32} {v5 : Int32} (h1 : xs (6 * k9 + 1) = v1) (h2 : xs (6 * k9 + 2) = v2) (h3 : xs (6 * k9 + 3) = v3) (h4 : xs (6 * k9 + 4) = v4) (h5 : xs (6 * k9 + 5) = v5) (k : W p l e room_1 s m #[Value.ref b] below meth c H locs ce sl (lw_Z below #[Value.ref b] s) (F0 m 388 ls (.int v5 :: .int v4 :: .int v3 :: .int v2 :: .int v1 :: .ref x :: rest))) : W p l e room_1 s m #[Value.ref b] below meth c H locs ce sl (lw_Z below #[Value.ref b] s) (F0 m 362 ls (rest)) := by
  obtain ⟨hx, hb, hr, hml, hown, hts1, hX, hbl, hlocks, hgv⟩ := id C0
  have hbA : ¬ (fun q : Nat => s.heap.size ≤ q) b := Nat.not_le.mpr hbl
  refine lv_aload_n hx hb dL_law_362 rfl (lv_at hl 2 rfl) ?_
  refine lv_aload_n hx hb dL_law_363 rfl (lv_at hl 3 rfl) ?_
  refine lv_iload_n hx hb dL_law_364 rfl (lv_at hl 0 rfl) ?_
  refine lv_iconst (v := 1) hx hb dL_law_365 rfl ?_
  refine lv_iadd hx hb dL_law_366 ?_
  refine zz_i (v := nI (6 * k9 + 1)) (nI_add (6 * k9) 1) ?_
  refine va_sld hx hb hX hbl hbA hS (vp_in_nI (n := 6 * k9 + 1) (N := L9) (by omega) (by omega)) dL_law_367 ?_
  refine zz_i (v := v1) ((congrArg xs (nI_clamp (by omega))).trans h1) ?_
  refine lv_aload_n hx hb dL_law_368 rfl (lv_at hl 3 rfl) ?_
  refine lv_iload_n hx hb dL_law_369 rfl (lv_at hl 0 rfl) ?_
  refine lv_iconst (v := 2) hx hb dL_law_370 rfl ?_
  refine lv_iadd hx hb dL_law_371 ?_
  refine zz_i (v := nI (6 * k9 + 2)) (nI_add (6 * k9) 2) ?_
  refine va_sld hx hb hX hbl hbA hS (vp_in_nI (n := 6 * k9 + 2) (N := L9) (by omega) (by omega)) dL_law_372 ?_
  refine zz_i (v := v2) ((congrArg xs (nI_clamp (by omega))).trans h2) ?_
  refine lv_aload_n hx hb dL_law_373 rfl (lv_at hl 3 rfl) ?_
  refine lv_iload_n hx hb dL_law_374 rfl (lv_at hl 0 rfl) ?_
  refine lv_iconst (v := 3) hx hb dL_law_375 rfl ?_
  refine lv_iadd hx hb dL_law_376 ?_
  refine zz_i (v := nI (6 * k9 + 3)) (nI_add (6 * k9) 3) ?_
  refine va_sld hx hb hX hbl hbA hS (vp_in_nI (n := 6 * k9 + 3) (N := L9) (by omega) (by omega)) dL_law_377 ?_
  refine zz_i (v := v3) ((congrArg xs (nI_clamp (by omega))).trans h3) ?_
  refine lv_aload_n hx hb dL_law_378 rfl (lv_at hl 3 rfl) ?_
  refine lv_iload_n hx hb dL_law_379 rfl (lv_at hl 0 rfl) ?_
  refine lv_iconst (v := 4) hx hb dL_law_380 rfl ?_
  refine lv_iadd hx hb dL_law_381 ?_
  refine zz_i (v := nI (6 * k9 + 4)) (nI_add (6 * k9) 4) ?_
  refine va_sld hx hb hX hbl hbA hS (vp_in_nI (n := 6 * k9 + 4) (N := L9) (by omega) (by omega)) dL_law_382 ?_
  refine zz_i (v := v4) ((congrArg xs (nI_clamp (by omega))).trans h4) ?_
  refine lv_aload_n hx hb dL_law_383 rfl (lv_at hl 3 rfl) ?_
  refine lv_iload_n hx hb dL_law_384 rfl (lv_at hl 0 rfl) ?_
  refine lv_iconst (v := 5) hx hb dL_law_385 rfl ?_
  refine lv_iadd hx hb dL_law_386 ?_
  refine zz_i (v := nI (6 * k9 + 5)) (nI_add (6 * k9) 5) ?_
  refine va_sld hx hb hX hbl hbA hS (vp_in_nI (n := 6 * k9 + 5) (N := L9) (by omega) (by omega)) dL_law_387 ?_
  refine zz_i (v := v5) ((congrArg xs (nI_clamp (by omega))).trans h5) ?_
  exact k
theorem la_6_2 {p : Program} {e : Env} {s : State} {m : MethodId} {below : List Frame} {meth : Method} {c : Code} (l : Launch) {b L9 : Nat} {xs : Nat → Int32} (C0 : lw_At p s m meth c b L9 xs) {x k0 k9 ce sl : Nat} (hk9 : 6 * k9 + 6 ≤ L9) (hL9 : L9 ≤ 3072) {H : Heap} {locs : List Loc} {ls : Array Slot} {rest : List Value} (hS : va_S (fun q : Nat => s.heap.size ≤ q) s.heap H locs) (hl : lv_has ls 4 [(3, .int (nI (6 * k9))), (2, .ref k0), (1, .ref x), (0, .ref b)]) {v1 : Int32} {v2 : Int32} {v3 : Int32} {v4 : Int32} {v5 : Int32} (h1 : xs (6 * k9 + 1) = v1) (h2 : xs (6 * k9 + 2) = v2) (h3 : xs (6 * k9 + 3) = v3) (h4 : xs (6 * k9 + 4) = v4) (h5 : xs (6 * k9 + 5) = v5) (k : W p l e room_1 s m #[Value.ref b] below meth c H locs ce sl (lw_Z below #[Value.ref b] s) (F0 m 418 ls (.int v5 :: .int v4 :: .int v3 :: .int v2 :: .int v1 :: .ref k0 :: rest))) : W p l e room_1 s m #[Value.ref b] below meth c H locs ce sl (lw_Z below #[Value.ref b] s) (F0 m 392 ls (rest)) := by
  obtain ⟨hx, hb, hr, hml, hown, hts1, hX, hbl, hlocks, hgv⟩ := id C0
  have hbA : ¬ (fun q : Nat => s.heap.size ≤ q) b := Nat.not_le.mpr hbl
  refine lv_aload_n hx hb dL_law_392 rfl (lv_at hl 1 rfl) ?_
  refine lv_aload_n hx hb dL_law_393 rfl (lv_at hl 3 rfl) ?_
  refine lv_iload_n hx hb dL_law_394 rfl (lv_at hl 0 rfl) ?_
  refine lv_iconst (v := 1) hx hb dL_law_395 rfl ?_
  refine lv_iadd hx hb dL_law_396 ?_
  refine zz_i (v := nI (6 * k9 + 1)) (nI_add (6 * k9) 1) ?_
  refine va_sld hx hb hX hbl hbA hS (vp_in_nI (n := 6 * k9 + 1) (N := L9) (by omega) (by omega)) dL_law_397 ?_
  refine zz_i (v := v1) ((congrArg xs (nI_clamp (by omega))).trans h1) ?_
  refine lv_aload_n hx hb dL_law_398 rfl (lv_at hl 3 rfl) ?_
  refine lv_iload_n hx hb dL_law_399 rfl (lv_at hl 0 rfl) ?_
  refine lv_iconst (v := 2) hx hb dL_law_400 rfl ?_
  refine lv_iadd hx hb dL_law_401 ?_
  refine zz_i (v := nI (6 * k9 + 2)) (nI_add (6 * k9) 2) ?_
  refine va_sld hx hb hX hbl hbA hS (vp_in_nI (n := 6 * k9 + 2) (N := L9) (by omega) (by omega)) dL_law_402 ?_
  refine zz_i (v := v2) ((congrArg xs (nI_clamp (by omega))).trans h2) ?_
  refine lv_aload_n hx hb dL_law_403 rfl (lv_at hl 3 rfl) ?_
  refine lv_iload_n hx hb dL_law_404 rfl (lv_at hl 0 rfl) ?_
  refine lv_iconst (v := 3) hx hb dL_law_405 rfl ?_
  refine lv_iadd hx hb dL_law_406 ?_
  refine zz_i (v := nI (6 * k9 + 3)) (nI_add (6 * k9) 3) ?_
  refine va_sld hx hb hX hbl hbA hS (vp_in_nI (n := 6 * k9 + 3) (N := L9) (by omega) (by omega)) dL_law_407 ?_
  refine zz_i (v := v3) ((congrArg xs (nI_clamp (by omega))).trans h3) ?_
  refine lv_aload_n hx hb dL_law_408 rfl (lv_at hl 3 rfl) ?_
  refine lv_iload_n hx hb dL_law_409 rfl (lv_at hl 0 rfl) ?_
  refine lv_iconst (v := 4) hx hb dL_law_410 rfl ?_
  refine lv_iadd hx hb dL_law_411 ?_
  refine zz_i (v := nI (6 * k9 + 4)) (nI_add (6 * k9) 4) ?_
  refine va_sld hx hb hX hbl hbA hS (vp_in_nI (n := 6 * k9 + 4) (N := L9) (by omega) (by omega)) dL_law_412 ?_
  refine zz_i (v := v4) ((congrArg xs (nI_clamp (by omega))).trans h4) ?_
  refine lv_aload_n hx hb dL_law_413 rfl (lv_at hl 3 rfl) ?_
  refine lv_iload_n hx hb dL_law_414 rfl (lv_at hl 0 rfl) ?_
  refine lv_iconst (v := 5) hx hb dL_law_415 rfl ?_
  refine lv_iadd hx hb dL_law_416 ?_
  refine zz_i (v := nI (6 * k9 + 5)) (nI_add (6 * k9) 5) ?_
  refine va_sld hx hb hX hbl hbA hS (vp_in_nI (n := 6 * k9 + 5) (N := L9) (by omega) (by omega)) dL_law_417 ?_
  refine zz_i (v := v5) ((congrArg xs (nI_clamp (by omega))).trans h5) ?_
  exact k
theorem la_7_1 {p : Program} {e : Env} {s : State} {m : MethodId} {below : List Frame} {meth : Method} {c : Code} (l : Launch) {b L9 : Nat} {xs : Nat → Int32} (C0 : lw_At p s m meth c b L9 xs) {x k0 k9 ce sl : Nat} (hk9 : 6 * k9 + 6 ≤ L9) (hL9 : L9 ≤ 3072) {H : Heap} {locs : List Loc} {ls : Array Slot} {rest : List Value} (hS : va_S (fun q : Nat => s.heap.size ≤ q) s.heap H locs) (hl : lv_has ls 4 [(3, .int (nI (6 * k9))), (2, .ref k0), (1, .ref x), (0, .ref b)]) {v1 : Int32} (h1 : xs (6 * k9 + 1) = v1) (k : W p l e room_1 s m #[Value.ref b] below meth c H locs ce sl (lw_Z below #[Value.ref b] s) (F0 m 431 ls (.int v1 :: .ref x :: rest))) : W p l e room_1 s m #[Value.ref b] below meth c H locs ce sl (lw_Z below #[Value.ref b] s) (F0 m 425 ls (rest)) := by
  obtain ⟨hx, hb, hr, hml, hown, hts1, hX, hbl, hlocks, hgv⟩ := id C0
  have hbA : ¬ (fun q : Nat => s.heap.size ≤ q) b := Nat.not_le.mpr hbl
  refine lv_aload_n hx hb dL_law_425 rfl (lv_at hl 2 rfl) ?_
  refine lv_aload_n hx hb dL_law_426 rfl (lv_at hl 3 rfl) ?_
  refine lv_iload_n hx hb dL_law_427 rfl (lv_at hl 0 rfl) ?_
  refine lv_iconst (v := 1) hx hb dL_law_428 rfl ?_
  refine lv_iadd hx hb dL_law_429 ?_
  refine zz_i (v := nI (6 * k9 + 1)) (nI_add (6 * k9) 1) ?_
  refine va_sld hx hb hX hbl hbA hS (vp_in_nI (n := 6 * k9 + 1) (N := L9) (by omega) (by omega)) dL_law_430 ?_
  refine zz_i (v := v1) ((congrArg xs (nI_clamp (by omega))).trans h1) ?_
  exact k
theorem la_7_2 {p : Program} {e : Env} {s : State} {m : MethodId} {below : List Frame} {meth : Method} {c : Code} (l : Launch) {b L9 : Nat} {xs : Nat → Int32} (C0 : lw_At p s m meth c b L9 xs) {x k0 k9 ce sl : Nat} (hk9 : 6 * k9 + 6 ≤ L9) (hL9 : L9 ≤ 3072) {H : Heap} {locs : List Loc} {ls : Array Slot} {rest : List Value} (hS : va_S (fun q : Nat => s.heap.size ≤ q) s.heap H locs) (hl : lv_has ls 4 [(3, .int (nI (6 * k9))), (2, .ref k0), (1, .ref x), (0, .ref b)]) {v1 : Int32} (h1 : xs (6 * k9 + 1) = v1) (k : W p l e room_1 s m #[Value.ref b] below meth c H locs ce sl (lw_Z below #[Value.ref b] s) (F0 m 441 ls (.int v1 :: .ref k0 :: rest))) : W p l e room_1 s m #[Value.ref b] below meth c H locs ce sl (lw_Z below #[Value.ref b] s) (F0 m 435 ls (rest)) := by
  obtain ⟨hx, hb, hr, hml, hown, hts1, hX, hbl, hlocks, hgv⟩ := id C0
  have hbA : ¬ (fun q : Nat => s.heap.size ≤ q) b := Nat.not_le.mpr hbl
  refine lv_aload_n hx hb dL_law_435 rfl (lv_at hl 1 rfl) ?_
  refine lv_aload_n hx hb dL_law_436 rfl (lv_at hl 3 rfl) ?_
  refine lv_iload_n hx hb dL_law_437 rfl (lv_at hl 0 rfl) ?_
  refine lv_iconst (v := 1) hx hb dL_law_438 rfl ?_
  refine lv_iadd hx hb dL_law_439 ?_
  refine zz_i (v := nI (6 * k9 + 1)) (nI_add (6 * k9) 1) ?_
  refine va_sld hx hb hX hbl hbA hS (vp_in_nI (n := 6 * k9 + 1) (N := L9) (by omega) (by omega)) dL_law_440 ?_
  refine zz_i (v := v1) ((congrArg xs (nI_clamp (by omega))).trans h1) ?_
  exact k
theorem la_8_1 {p : Program} {e : Env} {s : State} {m : MethodId} {below : List Frame} {meth : Method} {c : Code} (l : Launch) {b L9 : Nat} {xs : Nat → Int32} (C0 : lw_At p s m meth c b L9 xs) {x k0 k9 ce sl : Nat} (hk9 : 6 * k9 + 6 ≤ L9) (hL9 : L9 ≤ 3072) {H : Heap} {locs : List Loc} {ls : Array Slot} {rest : List Value} (hS : va_S (fun q : Nat => s.heap.size ≤ q) s.heap H locs) (hl : lv_has ls 4 [(3, .int (nI (6 * k9))), (2, .ref k0), (1, .ref x), (0, .ref b)]) {v1 : Int32} {v2 : Int32} (h1 : xs (6 * k9 + 1) = v1) (h2 : xs (6 * k9 + 2) = v2) (k : W p l e room_1 s m #[Value.ref b] below meth c H locs ce sl (lw_Z below #[Value.ref b] s) (F0 m 459 ls (.int v2 :: .int v1 :: .ref x :: rest))) : W p l e room_1 s m #[Value.ref b] below meth c H locs ce sl (lw_Z below #[Value.ref b] s) (F0 m 448 ls (rest)) := by
  obtain ⟨hx, hb, hr, hml, hown, hts1, hX, hbl, hlocks, hgv⟩ := id C0
  have hbA : ¬ (fun q : Nat => s.heap.size ≤ q) b := Nat.not_le.mpr hbl
  refine lv_aload_n hx hb dL_law_448 rfl (lv_at hl 2 rfl) ?_
  refine lv_aload_n hx hb dL_law_449 rfl (lv_at hl 3 rfl) ?_
  refine lv_iload_n hx hb dL_law_450 rfl (lv_at hl 0 rfl) ?_
  refine lv_iconst (v := 1) hx hb dL_law_451 rfl ?_
  refine lv_iadd hx hb dL_law_452 ?_
  refine zz_i (v := nI (6 * k9 + 1)) (nI_add (6 * k9) 1) ?_
  refine va_sld hx hb hX hbl hbA hS (vp_in_nI (n := 6 * k9 + 1) (N := L9) (by omega) (by omega)) dL_law_453 ?_
  refine zz_i (v := v1) ((congrArg xs (nI_clamp (by omega))).trans h1) ?_
  refine lv_aload_n hx hb dL_law_454 rfl (lv_at hl 3 rfl) ?_
  refine lv_iload_n hx hb dL_law_455 rfl (lv_at hl 0 rfl) ?_
  refine lv_iconst (v := 2) hx hb dL_law_456 rfl ?_
  refine lv_iadd hx hb dL_law_457 ?_
  refine zz_i (v := nI (6 * k9 + 2)) (nI_add (6 * k9) 2) ?_
  refine va_sld hx hb hX hbl hbA hS (vp_in_nI (n := 6 * k9 + 2) (N := L9) (by omega) (by omega)) dL_law_458 ?_
  refine zz_i (v := v2) ((congrArg xs (nI_clamp (by omega))).trans h2) ?_
  exact k
theorem la_8_2 {p : Program} {e : Env} {s : State} {m : MethodId} {below : List Frame} {meth : Method} {c : Code} (l : Launch) {b L9 : Nat} {xs : Nat → Int32} (C0 : lw_At p s m meth c b L9 xs) {x k0 k9 ce sl : Nat} (hk9 : 6 * k9 + 6 ≤ L9) (hL9 : L9 ≤ 3072) {H : Heap} {locs : List Loc} {ls : Array Slot} {rest : List Value} (hS : va_S (fun q : Nat => s.heap.size ≤ q) s.heap H locs) (hl : lv_has ls 4 [(3, .int (nI (6 * k9))), (2, .ref k0), (1, .ref x), (0, .ref b)]) {v1 : Int32} {v2 : Int32} (h1 : xs (6 * k9 + 1) = v1) (h2 : xs (6 * k9 + 2) = v2) (k : W p l e room_1 s m #[Value.ref b] below meth c H locs ce sl (lw_Z below #[Value.ref b] s) (F0 m 474 ls (.int v2 :: .int v1 :: .ref k0 :: rest))) : W p l e room_1 s m #[Value.ref b] below meth c H locs ce sl (lw_Z below #[Value.ref b] s) (F0 m 463 ls (rest)) := by
  obtain ⟨hx, hb, hr, hml, hown, hts1, hX, hbl, hlocks, hgv⟩ := id C0
  have hbA : ¬ (fun q : Nat => s.heap.size ≤ q) b := Nat.not_le.mpr hbl
  refine lv_aload_n hx hb dL_law_463 rfl (lv_at hl 1 rfl) ?_
  refine lv_aload_n hx hb dL_law_464 rfl (lv_at hl 3 rfl) ?_
  refine lv_iload_n hx hb dL_law_465 rfl (lv_at hl 0 rfl) ?_
  refine lv_iconst (v := 1) hx hb dL_law_466 rfl ?_
  refine lv_iadd hx hb dL_law_467 ?_
  refine zz_i (v := nI (6 * k9 + 1)) (nI_add (6 * k9) 1) ?_
  refine va_sld hx hb hX hbl hbA hS (vp_in_nI (n := 6 * k9 + 1) (N := L9) (by omega) (by omega)) dL_law_468 ?_
  refine zz_i (v := v1) ((congrArg xs (nI_clamp (by omega))).trans h1) ?_
  refine lv_aload_n hx hb dL_law_469 rfl (lv_at hl 3 rfl) ?_
  refine lv_iload_n hx hb dL_law_470 rfl (lv_at hl 0 rfl) ?_
  refine lv_iconst (v := 2) hx hb dL_law_471 rfl ?_
  refine lv_iadd hx hb dL_law_472 ?_
  refine zz_i (v := nI (6 * k9 + 2)) (nI_add (6 * k9) 2) ?_
  refine va_sld hx hb hX hbl hbA hS (vp_in_nI (n := 6 * k9 + 2) (N := L9) (by omega) (by omega)) dL_law_473 ?_
  refine zz_i (v := v2) ((congrArg xs (nI_clamp (by omega))).trans h2) ?_
  exact k
theorem la_9_1 {p : Program} {e : Env} {s : State} {m : MethodId} {below : List Frame} {meth : Method} {c : Code} (l : Launch) {b L9 : Nat} {xs : Nat → Int32} (C0 : lw_At p s m meth c b L9 xs) {x k0 k9 ce sl : Nat} (hk9 : 6 * k9 + 6 ≤ L9) (hL9 : L9 ≤ 3072) {H : Heap} {locs : List Loc} {ls : Array Slot} {rest : List Value} (hS : va_S (fun q : Nat => s.heap.size ≤ q) s.heap H locs) (hl : lv_has ls 4 [(3, .int (nI (6 * k9))), (2, .ref k0), (1, .ref x), (0, .ref b)]) {v1 : Int32} {v2 : Int32} {v3 : Int32} (h1 : xs (6 * k9 + 1) = v1) (h2 : xs (6 * k9 + 2) = v2) (h3 : xs (6 * k9 + 3) = v3) (k : W p l e room_1 s m #[Value.ref b] below meth c H locs ce sl (lw_Z below #[Value.ref b] s) (F0 m 497 ls (.int v3 :: .int v2 :: .int v1 :: .ref x :: rest))) : W p l e room_1 s m #[Value.ref b] below meth c H locs ce sl (lw_Z below #[Value.ref b] s) (F0 m 481 ls (rest)) := by
  obtain ⟨hx, hb, hr, hml, hown, hts1, hX, hbl, hlocks, hgv⟩ := id C0
  have hbA : ¬ (fun q : Nat => s.heap.size ≤ q) b := Nat.not_le.mpr hbl
  refine lv_aload_n hx hb dL_law_481 rfl (lv_at hl 2 rfl) ?_
  refine lv_aload_n hx hb dL_law_482 rfl (lv_at hl 3 rfl) ?_
  refine lv_iload_n hx hb dL_law_483 rfl (lv_at hl 0 rfl) ?_
  refine lv_iconst (v := 1) hx hb dL_law_484 rfl ?_
  refine lv_iadd hx hb dL_law_485 ?_
  refine zz_i (v := nI (6 * k9 + 1)) (nI_add (6 * k9) 1) ?_
  refine va_sld hx hb hX hbl hbA hS (vp_in_nI (n := 6 * k9 + 1) (N := L9) (by omega) (by omega)) dL_law_486 ?_
  refine zz_i (v := v1) ((congrArg xs (nI_clamp (by omega))).trans h1) ?_
  refine lv_aload_n hx hb dL_law_487 rfl (lv_at hl 3 rfl) ?_
  refine lv_iload_n hx hb dL_law_488 rfl (lv_at hl 0 rfl) ?_
  refine lv_iconst (v := 2) hx hb dL_law_489 rfl ?_
  refine lv_iadd hx hb dL_law_490 ?_
  refine zz_i (v := nI (6 * k9 + 2)) (nI_add (6 * k9) 2) ?_
  refine va_sld hx hb hX hbl hbA hS (vp_in_nI (n := 6 * k9 + 2) (N := L9) (by omega) (by omega)) dL_law_491 ?_
  refine zz_i (v := v2) ((congrArg xs (nI_clamp (by omega))).trans h2) ?_
  refine lv_aload_n hx hb dL_law_492 rfl (lv_at hl 3 rfl) ?_
  refine lv_iload_n hx hb dL_law_493 rfl (lv_at hl 0 rfl) ?_
  refine lv_iconst (v := 3) hx hb dL_law_494 rfl ?_
  refine lv_iadd hx hb dL_law_495 ?_
  refine zz_i (v := nI (6 * k9 + 3)) (nI_add (6 * k9) 3) ?_
  refine va_sld hx hb hX hbl hbA hS (vp_in_nI (n := 6 * k9 + 3) (N := L9) (by omega) (by omega)) dL_law_496 ?_
  refine zz_i (v := v3) ((congrArg xs (nI_clamp (by omega))).trans h3) ?_
  exact k
theorem la_9_2 {p : Program} {e : Env} {s : State} {m : MethodId} {below : List Frame} {meth : Method} {c : Code} (l : Launch) {b L9 : Nat} {xs : Nat → Int32} (C0 : lw_At p s m meth c b L9 xs) {x k0 k9 ce sl : Nat} (hk9 : 6 * k9 + 6 ≤ L9) (hL9 : L9 ≤ 3072) {H : Heap} {locs : List Loc} {ls : Array Slot} {rest : List Value} (hS : va_S (fun q : Nat => s.heap.size ≤ q) s.heap H locs) (hl : lv_has ls 4 [(3, .int (nI (6 * k9))), (2, .ref k0), (1, .ref x), (0, .ref b)]) {v1 : Int32} {v2 : Int32} {v3 : Int32} (h1 : xs (6 * k9 + 1) = v1) (h2 : xs (6 * k9 + 2) = v2) (h3 : xs (6 * k9 + 3) = v3) (k : W p l e room_1 s m #[Value.ref b] below meth c H locs ce sl (lw_Z below #[Value.ref b] s) (F0 m 517 ls (.int v3 :: .int v2 :: .int v1 :: .ref k0 :: rest))) : W p l e room_1 s m #[Value.ref b] below meth c H locs ce sl (lw_Z below #[Value.ref b] s) (F0 m 501 ls (rest)) := by
  obtain ⟨hx, hb, hr, hml, hown, hts1, hX, hbl, hlocks, hgv⟩ := id C0
  have hbA : ¬ (fun q : Nat => s.heap.size ≤ q) b := Nat.not_le.mpr hbl
  refine lv_aload_n hx hb dL_law_501 rfl (lv_at hl 1 rfl) ?_
  refine lv_aload_n hx hb dL_law_502 rfl (lv_at hl 3 rfl) ?_
  refine lv_iload_n hx hb dL_law_503 rfl (lv_at hl 0 rfl) ?_
  refine lv_iconst (v := 1) hx hb dL_law_504 rfl ?_
  refine lv_iadd hx hb dL_law_505 ?_
  refine zz_i (v := nI (6 * k9 + 1)) (nI_add (6 * k9) 1) ?_
  refine va_sld hx hb hX hbl hbA hS (vp_in_nI (n := 6 * k9 + 1) (N := L9) (by omega) (by omega)) dL_law_506 ?_
  refine zz_i (v := v1) ((congrArg xs (nI_clamp (by omega))).trans h1) ?_
  refine lv_aload_n hx hb dL_law_507 rfl (lv_at hl 3 rfl) ?_
  refine lv_iload_n hx hb dL_law_508 rfl (lv_at hl 0 rfl) ?_
  refine lv_iconst (v := 2) hx hb dL_law_509 rfl ?_
  refine lv_iadd hx hb dL_law_510 ?_
  refine zz_i (v := nI (6 * k9 + 2)) (nI_add (6 * k9) 2) ?_
  refine va_sld hx hb hX hbl hbA hS (vp_in_nI (n := 6 * k9 + 2) (N := L9) (by omega) (by omega)) dL_law_511 ?_
  refine zz_i (v := v2) ((congrArg xs (nI_clamp (by omega))).trans h2) ?_
  refine lv_aload_n hx hb dL_law_512 rfl (lv_at hl 3 rfl) ?_
  refine lv_iload_n hx hb dL_law_513 rfl (lv_at hl 0 rfl) ?_
  refine lv_iconst (v := 3) hx hb dL_law_514 rfl ?_
  refine lv_iadd hx hb dL_law_515 ?_
  refine zz_i (v := nI (6 * k9 + 3)) (nI_add (6 * k9) 3) ?_
  refine va_sld hx hb hX hbl hbA hS (vp_in_nI (n := 6 * k9 + 3) (N := L9) (by omega) (by omega)) dL_law_516 ?_
  refine zz_i (v := v3) ((congrArg xs (nI_clamp (by omega))).trans h3) ?_
  exact k
theorem la_10_1 {p : Program} {e : Env} {s : State} {m : MethodId} {below : List Frame} {meth : Method} {c : Code} (l : Launch) {b L9 : Nat} {xs : Nat → Int32} (C0 : lw_At p s m meth c b L9 xs) {x k0 k9 ce sl : Nat} (hk9 : 6 * k9 + 6 ≤ L9) (hL9 : L9 ≤ 3072) {H : Heap} {locs : List Loc} {ls : Array Slot} {rest : List Value} (hS : va_S (fun q : Nat => s.heap.size ≤ q) s.heap H locs) (hl : lv_has ls 4 [(3, .int (nI (6 * k9))), (2, .ref k0), (1, .ref x), (0, .ref b)]) {v1 : Int32} (h1 : xs (6 * k9 + 1) = v1) (k : W p l e room_1 s m #[Value.ref b] below meth c H locs ce sl (lw_Z below #[Value.ref b] s) (F0 m 530 ls (.int v1 :: .ref x :: rest))) : W p l e room_1 s m #[Value.ref b] below meth c H locs ce sl (lw_Z below #[Value.ref b] s) (F0 m 524 ls (rest)) := by
  obtain ⟨hx, hb, hr, hml, hown, hts1, hX, hbl, hlocks, hgv⟩ := id C0
  have hbA : ¬ (fun q : Nat => s.heap.size ≤ q) b := Nat.not_le.mpr hbl
  refine lv_aload_n hx hb dL_law_524 rfl (lv_at hl 2 rfl) ?_
  refine lv_aload_n hx hb dL_law_525 rfl (lv_at hl 3 rfl) ?_
  refine lv_iload_n hx hb dL_law_526 rfl (lv_at hl 0 rfl) ?_
  refine lv_iconst (v := 1) hx hb dL_law_527 rfl ?_
  refine lv_iadd hx hb dL_law_528 ?_
  refine zz_i (v := nI (6 * k9 + 1)) (nI_add (6 * k9) 1) ?_
  refine va_sld hx hb hX hbl hbA hS (vp_in_nI (n := 6 * k9 + 1) (N := L9) (by omega) (by omega)) dL_law_529 ?_
  refine zz_i (v := v1) ((congrArg xs (nI_clamp (by omega))).trans h1) ?_
  exact k
theorem la_10_2 {p : Program} {e : Env} {s : State} {m : MethodId} {below : List Frame} {meth : Method} {c : Code} (l : Launch) {b L9 : Nat} {xs : Nat → Int32} (C0 : lw_At p s m meth c b L9 xs) {x k0 k9 ce sl : Nat} (hk9 : 6 * k9 + 6 ≤ L9) (hL9 : L9 ≤ 3072) {H : Heap} {locs : List Loc} {ls : Array Slot} {rest : List Value} (hS : va_S (fun q : Nat => s.heap.size ≤ q) s.heap H locs) (hl : lv_has ls 4 [(3, .int (nI (6 * k9))), (2, .ref k0), (1, .ref x), (0, .ref b)]) {v1 : Int32} (h1 : xs (6 * k9 + 1) = v1) (k : W p l e room_1 s m #[Value.ref b] below meth c H locs ce sl (lw_Z below #[Value.ref b] s) (F0 m 540 ls (.int v1 :: .ref k0 :: rest))) : W p l e room_1 s m #[Value.ref b] below meth c H locs ce sl (lw_Z below #[Value.ref b] s) (F0 m 534 ls (rest)) := by
  obtain ⟨hx, hb, hr, hml, hown, hts1, hX, hbl, hlocks, hgv⟩ := id C0
  have hbA : ¬ (fun q : Nat => s.heap.size ≤ q) b := Nat.not_le.mpr hbl
  refine lv_aload_n hx hb dL_law_534 rfl (lv_at hl 1 rfl) ?_
  refine lv_aload_n hx hb dL_law_535 rfl (lv_at hl 3 rfl) ?_
  refine lv_iload_n hx hb dL_law_536 rfl (lv_at hl 0 rfl) ?_
  refine lv_iconst (v := 1) hx hb dL_law_537 rfl ?_
  refine lv_iadd hx hb dL_law_538 ?_
  refine zz_i (v := nI (6 * k9 + 1)) (nI_add (6 * k9) 1) ?_
  refine va_sld hx hb hX hbl hbA hS (vp_in_nI (n := 6 * k9 + 1) (N := L9) (by omega) (by omega)) dL_law_539 ?_
  refine zz_i (v := v1) ((congrArg xs (nI_clamp (by omega))).trans h1) ?_
  exact k
theorem la_11_1 {p : Program} {e : Env} {s : State} {m : MethodId} {below : List Frame} {meth : Method} {c : Code} (l : Launch) {b L9 : Nat} {xs : Nat → Int32} (C0 : lw_At p s m meth c b L9 xs) {x k0 k9 ce sl : Nat} (hk9 : 6 * k9 + 6 ≤ L9) (hL9 : L9 ≤ 3072) {H : Heap} {locs : List Loc} {ls : Array Slot} {rest : List Value} (hS : va_S (fun q : Nat => s.heap.size ≤ q) s.heap H locs) (hl : lv_has ls 4 [(3, .int (nI (6 * k9))), (2, .ref k0), (1, .ref x), (0, .ref b)]) {v1 : Int32} {v2 : Int32} (h1 : xs (6 * k9 + 1) = v1) (h2 : xs (6 * k9 + 2) = v2) (k : W p l e room_1 s m #[Value.ref b] below meth c H locs ce sl (lw_Z below #[Value.ref b] s) (F0 m 558 ls (.int v2 :: .int v1 :: .ref x :: rest))) : W p l e room_1 s m #[Value.ref b] below meth c H locs ce sl (lw_Z below #[Value.ref b] s) (F0 m 547 ls (rest)) := by
  obtain ⟨hx, hb, hr, hml, hown, hts1, hX, hbl, hlocks, hgv⟩ := id C0
  have hbA : ¬ (fun q : Nat => s.heap.size ≤ q) b := Nat.not_le.mpr hbl
  refine lv_aload_n hx hb dL_law_547 rfl (lv_at hl 2 rfl) ?_
  refine lv_aload_n hx hb dL_law_548 rfl (lv_at hl 3 rfl) ?_
  refine lv_iload_n hx hb dL_law_549 rfl (lv_at hl 0 rfl) ?_
  refine lv_iconst (v := 1) hx hb dL_law_550 rfl ?_
  refine lv_iadd hx hb dL_law_551 ?_
  refine zz_i (v := nI (6 * k9 + 1)) (nI_add (6 * k9) 1) ?_
  refine va_sld hx hb hX hbl hbA hS (vp_in_nI (n := 6 * k9 + 1) (N := L9) (by omega) (by omega)) dL_law_552 ?_
  refine zz_i (v := v1) ((congrArg xs (nI_clamp (by omega))).trans h1) ?_
  refine lv_aload_n hx hb dL_law_553 rfl (lv_at hl 3 rfl) ?_
  refine lv_iload_n hx hb dL_law_554 rfl (lv_at hl 0 rfl) ?_
  refine lv_iconst (v := 2) hx hb dL_law_555 rfl ?_
  refine lv_iadd hx hb dL_law_556 ?_
  refine zz_i (v := nI (6 * k9 + 2)) (nI_add (6 * k9) 2) ?_
  refine va_sld hx hb hX hbl hbA hS (vp_in_nI (n := 6 * k9 + 2) (N := L9) (by omega) (by omega)) dL_law_557 ?_
  refine zz_i (v := v2) ((congrArg xs (nI_clamp (by omega))).trans h2) ?_
  exact k
theorem la_11_2 {p : Program} {e : Env} {s : State} {m : MethodId} {below : List Frame} {meth : Method} {c : Code} (l : Launch) {b L9 : Nat} {xs : Nat → Int32} (C0 : lw_At p s m meth c b L9 xs) {x k0 k9 ce sl : Nat} (hk9 : 6 * k9 + 6 ≤ L9) (hL9 : L9 ≤ 3072) {H : Heap} {locs : List Loc} {ls : Array Slot} {rest : List Value} (hS : va_S (fun q : Nat => s.heap.size ≤ q) s.heap H locs) (hl : lv_has ls 4 [(3, .int (nI (6 * k9))), (2, .ref k0), (1, .ref x), (0, .ref b)]) {v1 : Int32} {v2 : Int32} (h1 : xs (6 * k9 + 1) = v1) (h2 : xs (6 * k9 + 2) = v2) (k : W p l e room_1 s m #[Value.ref b] below meth c H locs ce sl (lw_Z below #[Value.ref b] s) (F0 m 573 ls (.int v2 :: .int v1 :: .ref k0 :: rest))) : W p l e room_1 s m #[Value.ref b] below meth c H locs ce sl (lw_Z below #[Value.ref b] s) (F0 m 562 ls (rest)) := by
  obtain ⟨hx, hb, hr, hml, hown, hts1, hX, hbl, hlocks, hgv⟩ := id C0
  have hbA : ¬ (fun q : Nat => s.heap.size ≤ q) b := Nat.not_le.mpr hbl
  refine lv_aload_n hx hb dL_law_562 rfl (lv_at hl 1 rfl) ?_
  refine lv_aload_n hx hb dL_law_563 rfl (lv_at hl 3 rfl) ?_
  refine lv_iload_n hx hb dL_law_564 rfl (lv_at hl 0 rfl) ?_
  refine lv_iconst (v := 1) hx hb dL_law_565 rfl ?_
  refine lv_iadd hx hb dL_law_566 ?_
  refine zz_i (v := nI (6 * k9 + 1)) (nI_add (6 * k9) 1) ?_
  refine va_sld hx hb hX hbl hbA hS (vp_in_nI (n := 6 * k9 + 1) (N := L9) (by omega) (by omega)) dL_law_567 ?_
  refine zz_i (v := v1) ((congrArg xs (nI_clamp (by omega))).trans h1) ?_
  refine lv_aload_n hx hb dL_law_568 rfl (lv_at hl 3 rfl) ?_
  refine lv_iload_n hx hb dL_law_569 rfl (lv_at hl 0 rfl) ?_
  refine lv_iconst (v := 2) hx hb dL_law_570 rfl ?_
  refine lv_iadd hx hb dL_law_571 ?_
  refine zz_i (v := nI (6 * k9 + 2)) (nI_add (6 * k9) 2) ?_
  refine va_sld hx hb hX hbl hbA hS (vp_in_nI (n := 6 * k9 + 2) (N := L9) (by omega) (by omega)) dL_law_572 ?_
  refine zz_i (v := v2) ((congrArg xs (nI_clamp (by omega))).trans h2) ?_
  exact k
theorem la_12_1 {p : Program} {e : Env} {s : State} {m : MethodId} {below : List Frame} {meth : Method} {c : Code} (l : Launch) {b L9 : Nat} {xs : Nat → Int32} (C0 : lw_At p s m meth c b L9 xs) {x k0 k9 ce sl : Nat} (hk9 : 6 * k9 + 6 ≤ L9) (hL9 : L9 ≤ 3072) {H : Heap} {locs : List Loc} {ls : Array Slot} {rest : List Value} (hS : va_S (fun q : Nat => s.heap.size ≤ q) s.heap H locs) (hl : lv_has ls 4 [(3, .int (nI (6 * k9))), (2, .ref k0), (1, .ref x), (0, .ref b)]) (k : W p l e room_1 s m #[Value.ref b] below meth c H locs ce sl (lw_Z below #[Value.ref b] s) (F0 m 581 ls (.ref x :: rest))) : W p l e room_1 s m #[Value.ref b] below meth c H locs ce sl (lw_Z below #[Value.ref b] s) (F0 m 580 ls (rest)) := by
  obtain ⟨hx, hb, hr, hml, hown, hts1, hX, hbl, hlocks, hgv⟩ := id C0
  have hbA : ¬ (fun q : Nat => s.heap.size ≤ q) b := Nat.not_le.mpr hbl
  refine lv_aload_n hx hb dL_law_580 rfl (lv_at hl 2 rfl) ?_
  exact k
theorem la_12_2 {p : Program} {e : Env} {s : State} {m : MethodId} {below : List Frame} {meth : Method} {c : Code} (l : Launch) {b L9 : Nat} {xs : Nat → Int32} (C0 : lw_At p s m meth c b L9 xs) {x k0 k9 ce sl : Nat} (hk9 : 6 * k9 + 6 ≤ L9) (hL9 : L9 ≤ 3072) {H : Heap} {locs : List Loc} {ls : Array Slot} {rest : List Value} (hS : va_S (fun q : Nat => s.heap.size ≤ q) s.heap H locs) (hl : lv_has ls 4 [(3, .int (nI (6 * k9))), (2, .ref k0), (1, .ref x), (0, .ref b)]) (k : W p l e room_1 s m #[Value.ref b] below meth c H locs ce sl (lw_Z below #[Value.ref b] s) (F0 m 586 ls (.ref k0 :: rest))) : W p l e room_1 s m #[Value.ref b] below meth c H locs ce sl (lw_Z below #[Value.ref b] s) (F0 m 585 ls (rest)) := by
  obtain ⟨hx, hb, hr, hml, hown, hts1, hX, hbl, hlocks, hgv⟩ := id C0
  have hbA : ¬ (fun q : Nat => s.heap.size ≤ q) b := Nat.not_le.mpr hbl
  refine lv_aload_n hx hb dL_law_585 rfl (lv_at hl 1 rfl) ?_
  exact k
theorem la_13_1 {p : Program} {e : Env} {s : State} {m : MethodId} {below : List Frame} {meth : Method} {c : Code} (l : Launch) {b L9 : Nat} {xs : Nat → Int32} (C0 : lw_At p s m meth c b L9 xs) {x k0 k9 ce sl : Nat} (hk9 : 6 * k9 + 6 ≤ L9) (hL9 : L9 ≤ 3072) {H : Heap} {locs : List Loc} {ls : Array Slot} {rest : List Value} (hS : va_S (fun q : Nat => s.heap.size ≤ q) s.heap H locs) (hl : lv_has ls 4 [(3, .int (nI (6 * k9))), (2, .ref k0), (1, .ref x), (0, .ref b)]) {v1 : Int32} (h1 : xs (6 * k9 + 1) = v1) (k : W p l e room_1 s m #[Value.ref b] below meth c H locs ce sl (lw_Z below #[Value.ref b] s) (F0 m 599 ls (.int v1 :: .ref x :: rest))) : W p l e room_1 s m #[Value.ref b] below meth c H locs ce sl (lw_Z below #[Value.ref b] s) (F0 m 593 ls (rest)) := by
  obtain ⟨hx, hb, hr, hml, hown, hts1, hX, hbl, hlocks, hgv⟩ := id C0
  have hbA : ¬ (fun q : Nat => s.heap.size ≤ q) b := Nat.not_le.mpr hbl
  refine lv_aload_n hx hb dL_law_593 rfl (lv_at hl 2 rfl) ?_
  refine lv_aload_n hx hb dL_law_594 rfl (lv_at hl 3 rfl) ?_
  refine lv_iload_n hx hb dL_law_595 rfl (lv_at hl 0 rfl) ?_
  refine lv_iconst (v := 1) hx hb dL_law_596 rfl ?_
  refine lv_iadd hx hb dL_law_597 ?_
  refine zz_i (v := nI (6 * k9 + 1)) (nI_add (6 * k9) 1) ?_
  refine va_sld hx hb hX hbl hbA hS (vp_in_nI (n := 6 * k9 + 1) (N := L9) (by omega) (by omega)) dL_law_598 ?_
  refine zz_i (v := v1) ((congrArg xs (nI_clamp (by omega))).trans h1) ?_
  exact k
theorem la_13_2 {p : Program} {e : Env} {s : State} {m : MethodId} {below : List Frame} {meth : Method} {c : Code} (l : Launch) {b L9 : Nat} {xs : Nat → Int32} (C0 : lw_At p s m meth c b L9 xs) {x k0 k9 ce sl : Nat} (hk9 : 6 * k9 + 6 ≤ L9) (hL9 : L9 ≤ 3072) {H : Heap} {locs : List Loc} {ls : Array Slot} {rest : List Value} (hS : va_S (fun q : Nat => s.heap.size ≤ q) s.heap H locs) (hl : lv_has ls 4 [(3, .int (nI (6 * k9))), (2, .ref k0), (1, .ref x), (0, .ref b)]) {v1 : Int32} (h1 : xs (6 * k9 + 1) = v1) (k : W p l e room_1 s m #[Value.ref b] below meth c H locs ce sl (lw_Z below #[Value.ref b] s) (F0 m 609 ls (.int v1 :: .ref k0 :: rest))) : W p l e room_1 s m #[Value.ref b] below meth c H locs ce sl (lw_Z below #[Value.ref b] s) (F0 m 603 ls (rest)) := by
  obtain ⟨hx, hb, hr, hml, hown, hts1, hX, hbl, hlocks, hgv⟩ := id C0
  have hbA : ¬ (fun q : Nat => s.heap.size ≤ q) b := Nat.not_le.mpr hbl
  refine lv_aload_n hx hb dL_law_603 rfl (lv_at hl 1 rfl) ?_
  refine lv_aload_n hx hb dL_law_604 rfl (lv_at hl 3 rfl) ?_
  refine lv_iload_n hx hb dL_law_605 rfl (lv_at hl 0 rfl) ?_
  refine lv_iconst (v := 1) hx hb dL_law_606 rfl ?_
  refine lv_iadd hx hb dL_law_607 ?_
  refine zz_i (v := nI (6 * k9 + 1)) (nI_add (6 * k9) 1) ?_
  refine va_sld hx hb hX hbl hbA hS (vp_in_nI (n := 6 * k9 + 1) (N := L9) (by omega) (by omega)) dL_law_608 ?_
  refine zz_i (v := v1) ((congrArg xs (nI_clamp (by omega))).trans h1) ?_
  exact k
theorem la_14_1 {p : Program} {e : Env} {s : State} {m : MethodId} {below : List Frame} {meth : Method} {c : Code} (l : Launch) {b L9 : Nat} {xs : Nat → Int32} (C0 : lw_At p s m meth c b L9 xs) {x k0 k9 ce sl : Nat} (hk9 : 6 * k9 + 6 ≤ L9) (hL9 : L9 ≤ 3072) {H : Heap} {locs : List Loc} {ls : Array Slot} {rest : List Value} (hS : va_S (fun q : Nat => s.heap.size ≤ q) s.heap H locs) (hl : lv_has ls 4 [(3, .int (nI (6 * k9))), (2, .ref k0), (1, .ref x), (0, .ref b)]) (k : W p l e room_1 s m #[Value.ref b] below meth c H locs ce sl (lw_Z below #[Value.ref b] s) (F0 m 617 ls (.ref x :: rest))) : W p l e room_1 s m #[Value.ref b] below meth c H locs ce sl (lw_Z below #[Value.ref b] s) (F0 m 616 ls (rest)) := by
  obtain ⟨hx, hb, hr, hml, hown, hts1, hX, hbl, hlocks, hgv⟩ := id C0
  have hbA : ¬ (fun q : Nat => s.heap.size ≤ q) b := Nat.not_le.mpr hbl
  refine lv_aload_n hx hb dL_law_616 rfl (lv_at hl 2 rfl) ?_
  exact k
theorem la_14_2 {p : Program} {e : Env} {s : State} {m : MethodId} {below : List Frame} {meth : Method} {c : Code} (l : Launch) {b L9 : Nat} {xs : Nat → Int32} (C0 : lw_At p s m meth c b L9 xs) {x k0 k9 ce sl : Nat} (hk9 : 6 * k9 + 6 ≤ L9) (hL9 : L9 ≤ 3072) {H : Heap} {locs : List Loc} {ls : Array Slot} {rest : List Value} (hS : va_S (fun q : Nat => s.heap.size ≤ q) s.heap H locs) (hl : lv_has ls 4 [(3, .int (nI (6 * k9))), (2, .ref k0), (1, .ref x), (0, .ref b)]) (k : W p l e room_1 s m #[Value.ref b] below meth c H locs ce sl (lw_Z below #[Value.ref b] s) (F0 m 622 ls (.ref k0 :: rest))) : W p l e room_1 s m #[Value.ref b] below meth c H locs ce sl (lw_Z below #[Value.ref b] s) (F0 m 621 ls (rest)) := by
  obtain ⟨hx, hb, hr, hml, hown, hts1, hX, hbl, hlocks, hgv⟩ := id C0
  have hbA : ¬ (fun q : Nat => s.heap.size ≤ q) b := Nat.not_le.mpr hbl
  refine lv_aload_n hx hb dL_law_621 rfl (lv_at hl 1 rfl) ?_
  exact k
theorem la_15_1 {p : Program} {e : Env} {s : State} {m : MethodId} {below : List Frame} {meth : Method} {c : Code} (l : Launch) {b L9 : Nat} {xs : Nat → Int32} (C0 : lw_At p s m meth c b L9 xs) {x k0 k9 ce sl : Nat} (hk9 : 6 * k9 + 6 ≤ L9) (hL9 : L9 ≤ 3072) {H : Heap} {locs : List Loc} {ls : Array Slot} {rest : List Value} (hS : va_S (fun q : Nat => s.heap.size ≤ q) s.heap H locs) (hl : lv_has ls 4 [(3, .int (nI (6 * k9))), (2, .ref k0), (1, .ref x), (0, .ref b)]) (k : W p l e room_1 s m #[Value.ref b] below meth c H locs ce sl (lw_Z below #[Value.ref b] s) (F0 m 630 ls (.ref x :: rest))) : W p l e room_1 s m #[Value.ref b] below meth c H locs ce sl (lw_Z below #[Value.ref b] s) (F0 m 629 ls (rest)) := by
  obtain ⟨hx, hb, hr, hml, hown, hts1, hX, hbl, hlocks, hgv⟩ := id C0
  have hbA : ¬ (fun q : Nat => s.heap.size ≤ q) b := Nat.not_le.mpr hbl
  refine lv_aload_n hx hb dL_law_629 rfl (lv_at hl 2 rfl) ?_
  exact k
theorem la_15_2 {p : Program} {e : Env} {s : State} {m : MethodId} {below : List Frame} {meth : Method} {c : Code} (l : Launch) {b L9 : Nat} {xs : Nat → Int32} (C0 : lw_At p s m meth c b L9 xs) {x k0 k9 ce sl : Nat} (hk9 : 6 * k9 + 6 ≤ L9) (hL9 : L9 ≤ 3072) {H : Heap} {locs : List Loc} {ls : Array Slot} {rest : List Value} (hS : va_S (fun q : Nat => s.heap.size ≤ q) s.heap H locs) (hl : lv_has ls 4 [(3, .int (nI (6 * k9))), (2, .ref k0), (1, .ref x), (0, .ref b)]) (k : W p l e room_1 s m #[Value.ref b] below meth c H locs ce sl (lw_Z below #[Value.ref b] s) (F0 m 635 ls (.ref k0 :: rest))) : W p l e room_1 s m #[Value.ref b] below meth c H locs ce sl (lw_Z below #[Value.ref b] s) (F0 m 634 ls (rest)) := by
  obtain ⟨hx, hb, hr, hml, hown, hts1, hX, hbl, hlocks, hgv⟩ := id C0
  have hbA : ¬ (fun q : Nat => s.heap.size ≤ q) b := Nat.not_le.mpr hbl
  refine lv_aload_n hx hb dL_law_634 rfl (lv_at hl 1 rfl) ?_
  exact k
theorem la_16_1 {p : Program} {e : Env} {s : State} {m : MethodId} {below : List Frame} {meth : Method} {c : Code} (l : Launch) {b L9 : Nat} {xs : Nat → Int32} (C0 : lw_At p s m meth c b L9 xs) {x k0 k9 ce sl : Nat} (hk9 : 6 * k9 + 6 ≤ L9) (hL9 : L9 ≤ 3072) {H : Heap} {locs : List Loc} {ls : Array Slot} {rest : List Value} (hS : va_S (fun q : Nat => s.heap.size ≤ q) s.heap H locs) (hl : lv_has ls 4 [(3, .int (nI (6 * k9))), (2, .ref k0), (1, .ref x), (0, .ref b)]) {v1 : Int32} {v2 : Int32} (h1 : xs (6 * k9 + 1) = v1) (h2 : xs (6 * k9 + 2) = v2) (k : W p l e room_1 s m #[Value.ref b] below meth c H locs ce sl (lw_Z below #[Value.ref b] s) (F0 m 653 ls (.int v2 :: .int v1 :: .ref x :: rest))) : W p l e room_1 s m #[Value.ref b] below meth c H locs ce sl (lw_Z below #[Value.ref b] s) (F0 m 642 ls (rest)) := by
  obtain ⟨hx, hb, hr, hml, hown, hts1, hX, hbl, hlocks, hgv⟩ := id C0
  have hbA : ¬ (fun q : Nat => s.heap.size ≤ q) b := Nat.not_le.mpr hbl
  refine lv_aload_n hx hb dL_law_642 rfl (lv_at hl 2 rfl) ?_
  refine lv_aload_n hx hb dL_law_643 rfl (lv_at hl 3 rfl) ?_
  refine lv_iload_n hx hb dL_law_644 rfl (lv_at hl 0 rfl) ?_
  refine lv_iconst (v := 1) hx hb dL_law_645 rfl ?_
  refine lv_iadd hx hb dL_law_646 ?_
  refine zz_i (v := nI (6 * k9 + 1)) (nI_add (6 * k9) 1) ?_
  refine va_sld hx hb hX hbl hbA hS (vp_in_nI (n := 6 * k9 + 1) (N := L9) (by omega) (by omega)) dL_law_647 ?_
  refine zz_i (v := v1) ((congrArg xs (nI_clamp (by omega))).trans h1) ?_
  refine lv_aload_n hx hb dL_law_648 rfl (lv_at hl 3 rfl) ?_
  refine lv_iload_n hx hb dL_law_649 rfl (lv_at hl 0 rfl) ?_
  refine lv_iconst (v := 2) hx hb dL_law_650 rfl ?_
  refine lv_iadd hx hb dL_law_651 ?_
  refine zz_i (v := nI (6 * k9 + 2)) (nI_add (6 * k9) 2) ?_
  refine va_sld hx hb hX hbl hbA hS (vp_in_nI (n := 6 * k9 + 2) (N := L9) (by omega) (by omega)) dL_law_652 ?_
  refine zz_i (v := v2) ((congrArg xs (nI_clamp (by omega))).trans h2) ?_
  exact k
theorem la_16_2 {p : Program} {e : Env} {s : State} {m : MethodId} {below : List Frame} {meth : Method} {c : Code} (l : Launch) {b L9 : Nat} {xs : Nat → Int32} (C0 : lw_At p s m meth c b L9 xs) {x k0 k9 ce sl : Nat} (hk9 : 6 * k9 + 6 ≤ L9) (hL9 : L9 ≤ 3072) {H : Heap} {locs : List Loc} {ls : Array Slot} {rest : List Value} (hS : va_S (fun q : Nat => s.heap.size ≤ q) s.heap H locs) (hl : lv_has ls 4 [(3, .int (nI (6 * k9))), (2, .ref k0), (1, .ref x), (0, .ref b)]) {v1 : Int32} {v2 : Int32} (h1 : xs (6 * k9 + 1) = v1) (h2 : xs (6 * k9 + 2) = v2) (k : W p l e room_1 s m #[Value.ref b] below meth c H locs ce sl (lw_Z below #[Value.ref b] s) (F0 m 668 ls (.int v2 :: .int v1 :: .ref k0 :: rest))) : W p l e room_1 s m #[Value.ref b] below meth c H locs ce sl (lw_Z below #[Value.ref b] s) (F0 m 657 ls (rest)) := by
  obtain ⟨hx, hb, hr, hml, hown, hts1, hX, hbl, hlocks, hgv⟩ := id C0
  have hbA : ¬ (fun q : Nat => s.heap.size ≤ q) b := Nat.not_le.mpr hbl
  refine lv_aload_n hx hb dL_law_657 rfl (lv_at hl 1 rfl) ?_
  refine lv_aload_n hx hb dL_law_658 rfl (lv_at hl 3 rfl) ?_
  refine lv_iload_n hx hb dL_law_659 rfl (lv_at hl 0 rfl) ?_
  refine lv_iconst (v := 1) hx hb dL_law_660 rfl ?_
  refine lv_iadd hx hb dL_law_661 ?_
  refine zz_i (v := nI (6 * k9 + 1)) (nI_add (6 * k9) 1) ?_
  refine va_sld hx hb hX hbl hbA hS (vp_in_nI (n := 6 * k9 + 1) (N := L9) (by omega) (by omega)) dL_law_662 ?_
  refine zz_i (v := v1) ((congrArg xs (nI_clamp (by omega))).trans h1) ?_
  refine lv_aload_n hx hb dL_law_663 rfl (lv_at hl 3 rfl) ?_
  refine lv_iload_n hx hb dL_law_664 rfl (lv_at hl 0 rfl) ?_
  refine lv_iconst (v := 2) hx hb dL_law_665 rfl ?_
  refine lv_iadd hx hb dL_law_666 ?_
  refine zz_i (v := nI (6 * k9 + 2)) (nI_add (6 * k9) 2) ?_
  refine va_sld hx hb hX hbl hbA hS (vp_in_nI (n := 6 * k9 + 2) (N := L9) (by omega) (by omega)) dL_law_667 ?_
  refine zz_i (v := v2) ((congrArg xs (nI_clamp (by omega))).trans h2) ?_
  exact k
theorem la_17_1 {p : Program} {e : Env} {s : State} {m : MethodId} {below : List Frame} {meth : Method} {c : Code} (l : Launch) {b L9 : Nat} {xs : Nat → Int32} (C0 : lw_At p s m meth c b L9 xs) {x k0 k9 ce sl : Nat} (hk9 : 6 * k9 + 6 ≤ L9) (hL9 : L9 ≤ 3072) {H : Heap} {locs : List Loc} {ls : Array Slot} {rest : List Value} (hS : va_S (fun q : Nat => s.heap.size ≤ q) s.heap H locs) (hl : lv_has ls 4 [(3, .int (nI (6 * k9))), (2, .ref k0), (1, .ref x), (0, .ref b)]) {v1 : Int32} {v2 : Int32} {v3 : Int32} (h1 : xs (6 * k9 + 1) = v1) (h2 : xs (6 * k9 + 2) = v2) (h3 : xs (6 * k9 + 3) = v3) (k : W p l e room_1 s m #[Value.ref b] below meth c H locs ce sl (lw_Z below #[Value.ref b] s) (F0 m 691 ls (.int v3 :: .int v2 :: .int v1 :: .ref x :: rest))) : W p l e room_1 s m #[Value.ref b] below meth c H locs ce sl (lw_Z below #[Value.ref b] s) (F0 m 675 ls (rest)) := by
  obtain ⟨hx, hb, hr, hml, hown, hts1, hX, hbl, hlocks, hgv⟩ := id C0
  have hbA : ¬ (fun q : Nat => s.heap.size ≤ q) b := Nat.not_le.mpr hbl
  refine lv_aload_n hx hb dL_law_675 rfl (lv_at hl 2 rfl) ?_
  refine lv_aload_n hx hb dL_law_676 rfl (lv_at hl 3 rfl) ?_
  refine lv_iload_n hx hb dL_law_677 rfl (lv_at hl 0 rfl) ?_
  refine lv_iconst (v := 1) hx hb dL_law_678 rfl ?_
  refine lv_iadd hx hb dL_law_679 ?_
  refine zz_i (v := nI (6 * k9 + 1)) (nI_add (6 * k9) 1) ?_
  refine va_sld hx hb hX hbl hbA hS (vp_in_nI (n := 6 * k9 + 1) (N := L9) (by omega) (by omega)) dL_law_680 ?_
  refine zz_i (v := v1) ((congrArg xs (nI_clamp (by omega))).trans h1) ?_
  refine lv_aload_n hx hb dL_law_681 rfl (lv_at hl 3 rfl) ?_
  refine lv_iload_n hx hb dL_law_682 rfl (lv_at hl 0 rfl) ?_
  refine lv_iconst (v := 2) hx hb dL_law_683 rfl ?_
  refine lv_iadd hx hb dL_law_684 ?_
  refine zz_i (v := nI (6 * k9 + 2)) (nI_add (6 * k9) 2) ?_
  refine va_sld hx hb hX hbl hbA hS (vp_in_nI (n := 6 * k9 + 2) (N := L9) (by omega) (by omega)) dL_law_685 ?_
  refine zz_i (v := v2) ((congrArg xs (nI_clamp (by omega))).trans h2) ?_
  refine lv_aload_n hx hb dL_law_686 rfl (lv_at hl 3 rfl) ?_
  refine lv_iload_n hx hb dL_law_687 rfl (lv_at hl 0 rfl) ?_
  refine lv_iconst (v := 3) hx hb dL_law_688 rfl ?_
  refine lv_iadd hx hb dL_law_689 ?_
  refine zz_i (v := nI (6 * k9 + 3)) (nI_add (6 * k9) 3) ?_
  refine va_sld hx hb hX hbl hbA hS (vp_in_nI (n := 6 * k9 + 3) (N := L9) (by omega) (by omega)) dL_law_690 ?_
  refine zz_i (v := v3) ((congrArg xs (nI_clamp (by omega))).trans h3) ?_
  exact k
theorem la_17_2 {p : Program} {e : Env} {s : State} {m : MethodId} {below : List Frame} {meth : Method} {c : Code} (l : Launch) {b L9 : Nat} {xs : Nat → Int32} (C0 : lw_At p s m meth c b L9 xs) {x k0 k9 ce sl : Nat} (hk9 : 6 * k9 + 6 ≤ L9) (hL9 : L9 ≤ 3072) {H : Heap} {locs : List Loc} {ls : Array Slot} {rest : List Value} (hS : va_S (fun q : Nat => s.heap.size ≤ q) s.heap H locs) (hl : lv_has ls 4 [(3, .int (nI (6 * k9))), (2, .ref k0), (1, .ref x), (0, .ref b)]) {v1 : Int32} {v2 : Int32} {v3 : Int32} (h1 : xs (6 * k9 + 1) = v1) (h2 : xs (6 * k9 + 2) = v2) (h3 : xs (6 * k9 + 3) = v3) (k : W p l e room_1 s m #[Value.ref b] below meth c H locs ce sl (lw_Z below #[Value.ref b] s) (F0 m 711 ls (.int v3 :: .int v2 :: .int v1 :: .ref k0 :: rest))) : W p l e room_1 s m #[Value.ref b] below meth c H locs ce sl (lw_Z below #[Value.ref b] s) (F0 m 695 ls (rest)) := by
  obtain ⟨hx, hb, hr, hml, hown, hts1, hX, hbl, hlocks, hgv⟩ := id C0
  have hbA : ¬ (fun q : Nat => s.heap.size ≤ q) b := Nat.not_le.mpr hbl
  refine lv_aload_n hx hb dL_law_695 rfl (lv_at hl 1 rfl) ?_
  refine lv_aload_n hx hb dL_law_696 rfl (lv_at hl 3 rfl) ?_
  refine lv_iload_n hx hb dL_law_697 rfl (lv_at hl 0 rfl) ?_
  refine lv_iconst (v := 1) hx hb dL_law_698 rfl ?_
  refine lv_iadd hx hb dL_law_699 ?_
  refine zz_i (v := nI (6 * k9 + 1)) (nI_add (6 * k9) 1) ?_
  refine va_sld hx hb hX hbl hbA hS (vp_in_nI (n := 6 * k9 + 1) (N := L9) (by omega) (by omega)) dL_law_700 ?_
  refine zz_i (v := v1) ((congrArg xs (nI_clamp (by omega))).trans h1) ?_
  refine lv_aload_n hx hb dL_law_701 rfl (lv_at hl 3 rfl) ?_
  refine lv_iload_n hx hb dL_law_702 rfl (lv_at hl 0 rfl) ?_
  refine lv_iconst (v := 2) hx hb dL_law_703 rfl ?_
  refine lv_iadd hx hb dL_law_704 ?_
  refine zz_i (v := nI (6 * k9 + 2)) (nI_add (6 * k9) 2) ?_
  refine va_sld hx hb hX hbl hbA hS (vp_in_nI (n := 6 * k9 + 2) (N := L9) (by omega) (by omega)) dL_law_705 ?_
  refine zz_i (v := v2) ((congrArg xs (nI_clamp (by omega))).trans h2) ?_
  refine lv_aload_n hx hb dL_law_706 rfl (lv_at hl 3 rfl) ?_
  refine lv_iload_n hx hb dL_law_707 rfl (lv_at hl 0 rfl) ?_
  refine lv_iconst (v := 3) hx hb dL_law_708 rfl ?_
  refine lv_iadd hx hb dL_law_709 ?_
  refine zz_i (v := nI (6 * k9 + 3)) (nI_add (6 * k9) 3) ?_
  refine va_sld hx hb hX hbl hbA hS (vp_in_nI (n := 6 * k9 + 3) (N := L9) (by omega) (by omega)) dL_law_710 ?_
  refine zz_i (v := v3) ((congrArg xs (nI_clamp (by omega))).trans h3) ?_
  exact k
theorem la_18_1 {p : Program} {e : Env} {s : State} {m : MethodId} {below : List Frame} {meth : Method} {c : Code} (l : Launch) {b L9 : Nat} {xs : Nat → Int32} (C0 : lw_At p s m meth c b L9 xs) {x k0 k9 ce sl : Nat} (hk9 : 6 * k9 + 6 ≤ L9) (hL9 : L9 ≤ 3072) {H : Heap} {locs : List Loc} {ls : Array Slot} {rest : List Value} (hS : va_S (fun q : Nat => s.heap.size ≤ q) s.heap H locs) (hl : lv_has ls 4 [(3, .int (nI (6 * k9))), (2, .ref k0), (1, .ref x), (0, .ref b)]) {v1 : Int32} {v2 : Int32} {v3 : Int32} {v4 : Int32} (h1 : xs (6 * k9 + 1) = v1) (h2 : xs (6 * k9 + 2) = v2) (h3 : xs (6 * k9 + 3) = v3) (h4 : xs (6 * k9 + 4) = v4) (k : W p l e room_1 s m #[Value.ref b] below meth c H locs ce sl (lw_Z below #[Value.ref b] s) (F0 m 739 ls (.int v4 :: .int v3 :: .int v2 :: .int v1 :: .ref x :: rest))) : W p l e room_1 s m #[Value.ref b] below meth c H locs ce sl (lw_Z below #[Value.ref b] s) (F0 m 718 ls (rest)) := by
  obtain ⟨hx, hb, hr, hml, hown, hts1, hX, hbl, hlocks, hgv⟩ := id C0
  have hbA : ¬ (fun q : Nat => s.heap.size ≤ q) b := Nat.not_le.mpr hbl
  refine lv_aload_n hx hb dL_law_718 rfl (lv_at hl 2 rfl) ?_
  refine lv_aload_n hx hb dL_law_719 rfl (lv_at hl 3 rfl) ?_
  refine lv_iload_n hx hb dL_law_720 rfl (lv_at hl 0 rfl) ?_
  refine lv_iconst (v := 1) hx hb dL_law_721 rfl ?_
  refine lv_iadd hx hb dL_law_722 ?_
  refine zz_i (v := nI (6 * k9 + 1)) (nI_add (6 * k9) 1) ?_
  refine va_sld hx hb hX hbl hbA hS (vp_in_nI (n := 6 * k9 + 1) (N := L9) (by omega) (by omega)) dL_law_723 ?_
  refine zz_i (v := v1) ((congrArg xs (nI_clamp (by omega))).trans h1) ?_
  refine lv_aload_n hx hb dL_law_724 rfl (lv_at hl 3 rfl) ?_
  refine lv_iload_n hx hb dL_law_725 rfl (lv_at hl 0 rfl) ?_
  refine lv_iconst (v := 2) hx hb dL_law_726 rfl ?_
  refine lv_iadd hx hb dL_law_727 ?_
  refine zz_i (v := nI (6 * k9 + 2)) (nI_add (6 * k9) 2) ?_
  refine va_sld hx hb hX hbl hbA hS (vp_in_nI (n := 6 * k9 + 2) (N := L9) (by omega) (by omega)) dL_law_728 ?_
  refine zz_i (v := v2) ((congrArg xs (nI_clamp (by omega))).trans h2) ?_
  refine lv_aload_n hx hb dL_law_729 rfl (lv_at hl 3 rfl) ?_
  refine lv_iload_n hx hb dL_law_730 rfl (lv_at hl 0 rfl) ?_
  refine lv_iconst (v := 3) hx hb dL_law_731 rfl ?_
  refine lv_iadd hx hb dL_law_732 ?_
  refine zz_i (v := nI (6 * k9 + 3)) (nI_add (6 * k9) 3) ?_
  refine va_sld hx hb hX hbl hbA hS (vp_in_nI (n := 6 * k9 + 3) (N := L9) (by omega) (by omega)) dL_law_733 ?_
  refine zz_i (v := v3) ((congrArg xs (nI_clamp (by omega))).trans h3) ?_
  refine lv_aload_n hx hb dL_law_734 rfl (lv_at hl 3 rfl) ?_
  refine lv_iload_n hx hb dL_law_735 rfl (lv_at hl 0 rfl) ?_
  refine lv_iconst (v := 4) hx hb dL_law_736 rfl ?_
  refine lv_iadd hx hb dL_law_737 ?_
  refine zz_i (v := nI (6 * k9 + 4)) (nI_add (6 * k9) 4) ?_
  refine va_sld hx hb hX hbl hbA hS (vp_in_nI (n := 6 * k9 + 4) (N := L9) (by omega) (by omega)) dL_law_738 ?_
  refine zz_i (v := v4) ((congrArg xs (nI_clamp (by omega))).trans h4) ?_
  exact k
theorem la_18_2 {p : Program} {e : Env} {s : State} {m : MethodId} {below : List Frame} {meth : Method} {c : Code} (l : Launch) {b L9 : Nat} {xs : Nat → Int32} (C0 : lw_At p s m meth c b L9 xs) {x k0 k9 ce sl : Nat} (hk9 : 6 * k9 + 6 ≤ L9) (hL9 : L9 ≤ 3072) {H : Heap} {locs : List Loc} {ls : Array Slot} {rest : List Value} (hS : va_S (fun q : Nat => s.heap.size ≤ q) s.heap H locs) (hl : lv_has ls 4 [(3, .int (nI (6 * k9))), (2, .ref k0), (1, .ref x), (0, .ref b)]) {v1 : Int32} {v2 : Int32} {v3 : Int32} {v4 : Int32} (h1 : xs (6 * k9 + 1) = v1) (h2 : xs (6 * k9 + 2) = v2) (h3 : xs (6 * k9 + 3) = v3) (h4 : xs (6 * k9 + 4) = v4) (k : W p l e room_1 s m #[Value.ref b] below meth c H locs ce sl (lw_Z below #[Value.ref b] s) (F0 m 764 ls (.int v4 :: .int v3 :: .int v2 :: .int v1 :: .ref k0 :: rest))) : W p l e room_1 s m #[Value.ref b] below meth c H locs ce sl (lw_Z below #[Value.ref b] s) (F0 m 743 ls (rest)) := by
  obtain ⟨hx, hb, hr, hml, hown, hts1, hX, hbl, hlocks, hgv⟩ := id C0
  have hbA : ¬ (fun q : Nat => s.heap.size ≤ q) b := Nat.not_le.mpr hbl
  refine lv_aload_n hx hb dL_law_743 rfl (lv_at hl 1 rfl) ?_
  refine lv_aload_n hx hb dL_law_744 rfl (lv_at hl 3 rfl) ?_
  refine lv_iload_n hx hb dL_law_745 rfl (lv_at hl 0 rfl) ?_
  refine lv_iconst (v := 1) hx hb dL_law_746 rfl ?_
  refine lv_iadd hx hb dL_law_747 ?_
  refine zz_i (v := nI (6 * k9 + 1)) (nI_add (6 * k9) 1) ?_
  refine va_sld hx hb hX hbl hbA hS (vp_in_nI (n := 6 * k9 + 1) (N := L9) (by omega) (by omega)) dL_law_748 ?_
  refine zz_i (v := v1) ((congrArg xs (nI_clamp (by omega))).trans h1) ?_
  refine lv_aload_n hx hb dL_law_749 rfl (lv_at hl 3 rfl) ?_
  refine lv_iload_n hx hb dL_law_750 rfl (lv_at hl 0 rfl) ?_
  refine lv_iconst (v := 2) hx hb dL_law_751 rfl ?_
  refine lv_iadd hx hb dL_law_752 ?_
  refine zz_i (v := nI (6 * k9 + 2)) (nI_add (6 * k9) 2) ?_
  refine va_sld hx hb hX hbl hbA hS (vp_in_nI (n := 6 * k9 + 2) (N := L9) (by omega) (by omega)) dL_law_753 ?_
  refine zz_i (v := v2) ((congrArg xs (nI_clamp (by omega))).trans h2) ?_
  refine lv_aload_n hx hb dL_law_754 rfl (lv_at hl 3 rfl) ?_
  refine lv_iload_n hx hb dL_law_755 rfl (lv_at hl 0 rfl) ?_
  refine lv_iconst (v := 3) hx hb dL_law_756 rfl ?_
  refine lv_iadd hx hb dL_law_757 ?_
  refine zz_i (v := nI (6 * k9 + 3)) (nI_add (6 * k9) 3) ?_
  refine va_sld hx hb hX hbl hbA hS (vp_in_nI (n := 6 * k9 + 3) (N := L9) (by omega) (by omega)) dL_law_758 ?_
  refine zz_i (v := v3) ((congrArg xs (nI_clamp (by omega))).trans h3) ?_
  refine lv_aload_n hx hb dL_law_759 rfl (lv_at hl 3 rfl) ?_
  refine lv_iload_n hx hb dL_law_760 rfl (lv_at hl 0 rfl) ?_
  refine lv_iconst (v := 4) hx hb dL_law_761 rfl ?_
  refine lv_iadd hx hb dL_law_762 ?_
  refine zz_i (v := nI (6 * k9 + 4)) (nI_add (6 * k9) 4) ?_
  refine va_sld hx hb hX hbl hbA hS (vp_in_nI (n := 6 * k9 + 4) (N := L9) (by omega) (by omega)) dL_law_763 ?_
  refine zz_i (v := v4) ((congrArg xs (nI_clamp (by omega))).trans h4) ?_
  exact k
theorem la_19_1 {p : Program} {e : Env} {s : State} {m : MethodId} {below : List Frame} {meth : Method} {c : Code} (l : Launch) {b L9 : Nat} {xs : Nat → Int32} (C0 : lw_At p s m meth c b L9 xs) {x k0 k9 ce sl : Nat} (hk9 : 6 * k9 + 6 ≤ L9) (hL9 : L9 ≤ 3072) {H : Heap} {locs : List Loc} {ls : Array Slot} {rest : List Value} (hS : va_S (fun q : Nat => s.heap.size ≤ q) s.heap H locs) (hl : lv_has ls 4 [(3, .int (nI (6 * k9))), (2, .ref k0), (1, .ref x), (0, .ref b)]) {v1 : Int32} {v2 : Int32} {v3 : Int32} (h1 : xs (6 * k9 + 1) = v1) (h2 : xs (6 * k9 + 2) = v2) (h3 : xs (6 * k9 + 3) = v3) (k : W p l e room_1 s m #[Value.ref b] below meth c H locs ce sl (lw_Z below #[Value.ref b] s) (F0 m 787 ls (.int v3 :: .int v2 :: .int v1 :: .ref x :: rest))) : W p l e room_1 s m #[Value.ref b] below meth c H locs ce sl (lw_Z below #[Value.ref b] s) (F0 m 771 ls (rest)) := by
  obtain ⟨hx, hb, hr, hml, hown, hts1, hX, hbl, hlocks, hgv⟩ := id C0
  have hbA : ¬ (fun q : Nat => s.heap.size ≤ q) b := Nat.not_le.mpr hbl
  refine lv_aload_n hx hb dL_law_771 rfl (lv_at hl 2 rfl) ?_
  refine lv_aload_n hx hb dL_law_772 rfl (lv_at hl 3 rfl) ?_
  refine lv_iload_n hx hb dL_law_773 rfl (lv_at hl 0 rfl) ?_
  refine lv_iconst (v := 1) hx hb dL_law_774 rfl ?_
  refine lv_iadd hx hb dL_law_775 ?_
  refine zz_i (v := nI (6 * k9 + 1)) (nI_add (6 * k9) 1) ?_
  refine va_sld hx hb hX hbl hbA hS (vp_in_nI (n := 6 * k9 + 1) (N := L9) (by omega) (by omega)) dL_law_776 ?_
  refine zz_i (v := v1) ((congrArg xs (nI_clamp (by omega))).trans h1) ?_
  refine lv_aload_n hx hb dL_law_777 rfl (lv_at hl 3 rfl) ?_
  refine lv_iload_n hx hb dL_law_778 rfl (lv_at hl 0 rfl) ?_
  refine lv_iconst (v := 2) hx hb dL_law_779 rfl ?_
  refine lv_iadd hx hb dL_law_780 ?_
  refine zz_i (v := nI (6 * k9 + 2)) (nI_add (6 * k9) 2) ?_
  refine va_sld hx hb hX hbl hbA hS (vp_in_nI (n := 6 * k9 + 2) (N := L9) (by omega) (by omega)) dL_law_781 ?_
  refine zz_i (v := v2) ((congrArg xs (nI_clamp (by omega))).trans h2) ?_
  refine lv_aload_n hx hb dL_law_782 rfl (lv_at hl 3 rfl) ?_
  refine lv_iload_n hx hb dL_law_783 rfl (lv_at hl 0 rfl) ?_
  refine lv_iconst (v := 3) hx hb dL_law_784 rfl ?_
  refine lv_iadd hx hb dL_law_785 ?_
  refine zz_i (v := nI (6 * k9 + 3)) (nI_add (6 * k9) 3) ?_
  refine va_sld hx hb hX hbl hbA hS (vp_in_nI (n := 6 * k9 + 3) (N := L9) (by omega) (by omega)) dL_law_786 ?_
  refine zz_i (v := v3) ((congrArg xs (nI_clamp (by omega))).trans h3) ?_
  exact k
theorem la_19_2 {p : Program} {e : Env} {s : State} {m : MethodId} {below : List Frame} {meth : Method} {c : Code} (l : Launch) {b L9 : Nat} {xs : Nat → Int32} (C0 : lw_At p s m meth c b L9 xs) {x k0 k9 ce sl : Nat} (hk9 : 6 * k9 + 6 ≤ L9) (hL9 : L9 ≤ 3072) {H : Heap} {locs : List Loc} {ls : Array Slot} {rest : List Value} (hS : va_S (fun q : Nat => s.heap.size ≤ q) s.heap H locs) (hl : lv_has ls 4 [(3, .int (nI (6 * k9))), (2, .ref k0), (1, .ref x), (0, .ref b)]) {v1 : Int32} {v2 : Int32} {v3 : Int32} (h1 : xs (6 * k9 + 1) = v1) (h2 : xs (6 * k9 + 2) = v2) (h3 : xs (6 * k9 + 3) = v3) (k : W p l e room_1 s m #[Value.ref b] below meth c H locs ce sl (lw_Z below #[Value.ref b] s) (F0 m 807 ls (.int v3 :: .int v2 :: .int v1 :: .ref k0 :: rest))) : W p l e room_1 s m #[Value.ref b] below meth c H locs ce sl (lw_Z below #[Value.ref b] s) (F0 m 791 ls (rest)) := by
  obtain ⟨hx, hb, hr, hml, hown, hts1, hX, hbl, hlocks, hgv⟩ := id C0
  have hbA : ¬ (fun q : Nat => s.heap.size ≤ q) b := Nat.not_le.mpr hbl
  refine lv_aload_n hx hb dL_law_791 rfl (lv_at hl 1 rfl) ?_
  refine lv_aload_n hx hb dL_law_792 rfl (lv_at hl 3 rfl) ?_
  refine lv_iload_n hx hb dL_law_793 rfl (lv_at hl 0 rfl) ?_
  refine lv_iconst (v := 1) hx hb dL_law_794 rfl ?_
  refine lv_iadd hx hb dL_law_795 ?_
  refine zz_i (v := nI (6 * k9 + 1)) (nI_add (6 * k9) 1) ?_
  refine va_sld hx hb hX hbl hbA hS (vp_in_nI (n := 6 * k9 + 1) (N := L9) (by omega) (by omega)) dL_law_796 ?_
  refine zz_i (v := v1) ((congrArg xs (nI_clamp (by omega))).trans h1) ?_
  refine lv_aload_n hx hb dL_law_797 rfl (lv_at hl 3 rfl) ?_
  refine lv_iload_n hx hb dL_law_798 rfl (lv_at hl 0 rfl) ?_
  refine lv_iconst (v := 2) hx hb dL_law_799 rfl ?_
  refine lv_iadd hx hb dL_law_800 ?_
  refine zz_i (v := nI (6 * k9 + 2)) (nI_add (6 * k9) 2) ?_
  refine va_sld hx hb hX hbl hbA hS (vp_in_nI (n := 6 * k9 + 2) (N := L9) (by omega) (by omega)) dL_law_801 ?_
  refine zz_i (v := v2) ((congrArg xs (nI_clamp (by omega))).trans h2) ?_
  refine lv_aload_n hx hb dL_law_802 rfl (lv_at hl 3 rfl) ?_
  refine lv_iload_n hx hb dL_law_803 rfl (lv_at hl 0 rfl) ?_
  refine lv_iconst (v := 3) hx hb dL_law_804 rfl ?_
  refine lv_iadd hx hb dL_law_805 ?_
  refine zz_i (v := nI (6 * k9 + 3)) (nI_add (6 * k9) 3) ?_
  refine va_sld hx hb hX hbl hbA hS (vp_in_nI (n := 6 * k9 + 3) (N := L9) (by omega) (by omega)) dL_law_806 ?_
  refine zz_i (v := v3) ((congrArg xs (nI_clamp (by omega))).trans h3) ?_
  exact k
theorem la_20_1 {p : Program} {e : Env} {s : State} {m : MethodId} {below : List Frame} {meth : Method} {c : Code} (l : Launch) {b L9 : Nat} {xs : Nat → Int32} (C0 : lw_At p s m meth c b L9 xs) {x k0 k9 ce sl : Nat} (hk9 : 6 * k9 + 6 ≤ L9) (hL9 : L9 ≤ 3072) {H : Heap} {locs : List Loc} {ls : Array Slot} {rest : List Value} (hS : va_S (fun q : Nat => s.heap.size ≤ q) s.heap H locs) (hl : lv_has ls 4 [(3, .int (nI (6 * k9))), (2, .ref k0), (1, .ref x), (0, .ref b)]) {v1 : Int32} (h1 : xs (6 * k9 + 1) = v1) (k : W p l e room_1 s m #[Value.ref b] below meth c H locs ce sl (lw_Z below #[Value.ref b] s) (F0 m 820 ls (.int v1 :: .ref x :: rest))) : W p l e room_1 s m #[Value.ref b] below meth c H locs ce sl (lw_Z below #[Value.ref b] s) (F0 m 814 ls (rest)) := by
  obtain ⟨hx, hb, hr, hml, hown, hts1, hX, hbl, hlocks, hgv⟩ := id C0
  have hbA : ¬ (fun q : Nat => s.heap.size ≤ q) b := Nat.not_le.mpr hbl
  refine lv_aload_n hx hb dL_law_814 rfl (lv_at hl 2 rfl) ?_
  refine lv_aload_n hx hb dL_law_815 rfl (lv_at hl 3 rfl) ?_
  refine lv_iload_n hx hb dL_law_816 rfl (lv_at hl 0 rfl) ?_
  refine lv_iconst (v := 1) hx hb dL_law_817 rfl ?_
  refine lv_iadd hx hb dL_law_818 ?_
  refine zz_i (v := nI (6 * k9 + 1)) (nI_add (6 * k9) 1) ?_
  refine va_sld hx hb hX hbl hbA hS (vp_in_nI (n := 6 * k9 + 1) (N := L9) (by omega) (by omega)) dL_law_819 ?_
  refine zz_i (v := v1) ((congrArg xs (nI_clamp (by omega))).trans h1) ?_
  exact k
theorem la_20_2 {p : Program} {e : Env} {s : State} {m : MethodId} {below : List Frame} {meth : Method} {c : Code} (l : Launch) {b L9 : Nat} {xs : Nat → Int32} (C0 : lw_At p s m meth c b L9 xs) {x k0 k9 ce sl : Nat} (hk9 : 6 * k9 + 6 ≤ L9) (hL9 : L9 ≤ 3072) {H : Heap} {locs : List Loc} {ls : Array Slot} {rest : List Value} (hS : va_S (fun q : Nat => s.heap.size ≤ q) s.heap H locs) (hl : lv_has ls 4 [(3, .int (nI (6 * k9))), (2, .ref k0), (1, .ref x), (0, .ref b)]) {v1 : Int32} (h1 : xs (6 * k9 + 1) = v1) (k : W p l e room_1 s m #[Value.ref b] below meth c H locs ce sl (lw_Z below #[Value.ref b] s) (F0 m 830 ls (.int v1 :: .ref k0 :: rest))) : W p l e room_1 s m #[Value.ref b] below meth c H locs ce sl (lw_Z below #[Value.ref b] s) (F0 m 824 ls (rest)) := by
  obtain ⟨hx, hb, hr, hml, hown, hts1, hX, hbl, hlocks, hgv⟩ := id C0
  have hbA : ¬ (fun q : Nat => s.heap.size ≤ q) b := Nat.not_le.mpr hbl
  refine lv_aload_n hx hb dL_law_824 rfl (lv_at hl 1 rfl) ?_
  refine lv_aload_n hx hb dL_law_825 rfl (lv_at hl 3 rfl) ?_
  refine lv_iload_n hx hb dL_law_826 rfl (lv_at hl 0 rfl) ?_
  refine lv_iconst (v := 1) hx hb dL_law_827 rfl ?_
  refine lv_iadd hx hb dL_law_828 ?_
  refine zz_i (v := nI (6 * k9 + 1)) (nI_add (6 * k9) 1) ?_
  refine va_sld hx hb hX hbl hbA hS (vp_in_nI (n := 6 * k9 + 1) (N := L9) (by omega) (by omega)) dL_law_829 ?_
  refine zz_i (v := v1) ((congrArg xs (nI_clamp (by omega))).trans h1) ?_
  exact k
theorem la_21_1 {p : Program} {e : Env} {s : State} {m : MethodId} {below : List Frame} {meth : Method} {c : Code} (l : Launch) {b L9 : Nat} {xs : Nat → Int32} (C0 : lw_At p s m meth c b L9 xs) {x k0 k9 ce sl : Nat} (hk9 : 6 * k9 + 6 ≤ L9) (hL9 : L9 ≤ 3072) {H : Heap} {locs : List Loc} {ls : Array Slot} {rest : List Value} (hS : va_S (fun q : Nat => s.heap.size ≤ q) s.heap H locs) (hl : lv_has ls 4 [(3, .int (nI (6 * k9))), (2, .ref k0), (1, .ref x), (0, .ref b)]) {v1 : Int32} {v2 : Int32} {v3 : Int32} (h1 : xs (6 * k9 + 1) = v1) (h2 : xs (6 * k9 + 2) = v2) (h3 : xs (6 * k9 + 3) = v3) (k : W p l e room_1 s m #[Value.ref b] below meth c H locs ce sl (lw_Z below #[Value.ref b] s) (F0 m 853 ls (.int v3 :: .int v2 :: .int v1 :: .ref x :: rest))) : W p l e room_1 s m #[Value.ref b] below meth c H locs ce sl (lw_Z below #[Value.ref b] s) (F0 m 837 ls (rest)) := by
  obtain ⟨hx, hb, hr, hml, hown, hts1, hX, hbl, hlocks, hgv⟩ := id C0
  have hbA : ¬ (fun q : Nat => s.heap.size ≤ q) b := Nat.not_le.mpr hbl
  refine lv_aload_n hx hb dL_law_837 rfl (lv_at hl 2 rfl) ?_
  refine lv_aload_n hx hb dL_law_838 rfl (lv_at hl 3 rfl) ?_
  refine lv_iload_n hx hb dL_law_839 rfl (lv_at hl 0 rfl) ?_
  refine lv_iconst (v := 1) hx hb dL_law_840 rfl ?_
  refine lv_iadd hx hb dL_law_841 ?_
  refine zz_i (v := nI (6 * k9 + 1)) (nI_add (6 * k9) 1) ?_
  refine va_sld hx hb hX hbl hbA hS (vp_in_nI (n := 6 * k9 + 1) (N := L9) (by omega) (by omega)) dL_law_842 ?_
  refine zz_i (v := v1) ((congrArg xs (nI_clamp (by omega))).trans h1) ?_
  refine lv_aload_n hx hb dL_law_843 rfl (lv_at hl 3 rfl) ?_
  refine lv_iload_n hx hb dL_law_844 rfl (lv_at hl 0 rfl) ?_
  refine lv_iconst (v := 2) hx hb dL_law_845 rfl ?_
  refine lv_iadd hx hb dL_law_846 ?_
  refine zz_i (v := nI (6 * k9 + 2)) (nI_add (6 * k9) 2) ?_
  refine va_sld hx hb hX hbl hbA hS (vp_in_nI (n := 6 * k9 + 2) (N := L9) (by omega) (by omega)) dL_law_847 ?_
  refine zz_i (v := v2) ((congrArg xs (nI_clamp (by omega))).trans h2) ?_
  refine lv_aload_n hx hb dL_law_848 rfl (lv_at hl 3 rfl) ?_
  refine lv_iload_n hx hb dL_law_849 rfl (lv_at hl 0 rfl) ?_
  refine lv_iconst (v := 3) hx hb dL_law_850 rfl ?_
  refine lv_iadd hx hb dL_law_851 ?_
  refine zz_i (v := nI (6 * k9 + 3)) (nI_add (6 * k9) 3) ?_
  refine va_sld hx hb hX hbl hbA hS (vp_in_nI (n := 6 * k9 + 3) (N := L9) (by omega) (by omega)) dL_law_852 ?_
  refine zz_i (v := v3) ((congrArg xs (nI_clamp (by omega))).trans h3) ?_
  exact k
theorem la_21_2 {p : Program} {e : Env} {s : State} {m : MethodId} {below : List Frame} {meth : Method} {c : Code} (l : Launch) {b L9 : Nat} {xs : Nat → Int32} (C0 : lw_At p s m meth c b L9 xs) {x k0 k9 ce sl : Nat} (hk9 : 6 * k9 + 6 ≤ L9) (hL9 : L9 ≤ 3072) {H : Heap} {locs : List Loc} {ls : Array Slot} {rest : List Value} (hS : va_S (fun q : Nat => s.heap.size ≤ q) s.heap H locs) (hl : lv_has ls 4 [(3, .int (nI (6 * k9))), (2, .ref k0), (1, .ref x), (0, .ref b)]) {v1 : Int32} {v2 : Int32} {v3 : Int32} (h1 : xs (6 * k9 + 1) = v1) (h2 : xs (6 * k9 + 2) = v2) (h3 : xs (6 * k9 + 3) = v3) (k : W p l e room_1 s m #[Value.ref b] below meth c H locs ce sl (lw_Z below #[Value.ref b] s) (F0 m 873 ls (.int v3 :: .int v2 :: .int v1 :: .ref k0 :: rest))) : W p l e room_1 s m #[Value.ref b] below meth c H locs ce sl (lw_Z below #[Value.ref b] s) (F0 m 857 ls (rest)) := by
  obtain ⟨hx, hb, hr, hml, hown, hts1, hX, hbl, hlocks, hgv⟩ := id C0
  have hbA : ¬ (fun q : Nat => s.heap.size ≤ q) b := Nat.not_le.mpr hbl
  refine lv_aload_n hx hb dL_law_857 rfl (lv_at hl 1 rfl) ?_
  refine lv_aload_n hx hb dL_law_858 rfl (lv_at hl 3 rfl) ?_
  refine lv_iload_n hx hb dL_law_859 rfl (lv_at hl 0 rfl) ?_
  refine lv_iconst (v := 1) hx hb dL_law_860 rfl ?_
  refine lv_iadd hx hb dL_law_861 ?_
  refine zz_i (v := nI (6 * k9 + 1)) (nI_add (6 * k9) 1) ?_
  refine va_sld hx hb hX hbl hbA hS (vp_in_nI (n := 6 * k9 + 1) (N := L9) (by omega) (by omega)) dL_law_862 ?_
  refine zz_i (v := v1) ((congrArg xs (nI_clamp (by omega))).trans h1) ?_
  refine lv_aload_n hx hb dL_law_863 rfl (lv_at hl 3 rfl) ?_
  refine lv_iload_n hx hb dL_law_864 rfl (lv_at hl 0 rfl) ?_
  refine lv_iconst (v := 2) hx hb dL_law_865 rfl ?_
  refine lv_iadd hx hb dL_law_866 ?_
  refine zz_i (v := nI (6 * k9 + 2)) (nI_add (6 * k9) 2) ?_
  refine va_sld hx hb hX hbl hbA hS (vp_in_nI (n := 6 * k9 + 2) (N := L9) (by omega) (by omega)) dL_law_867 ?_
  refine zz_i (v := v2) ((congrArg xs (nI_clamp (by omega))).trans h2) ?_
  refine lv_aload_n hx hb dL_law_868 rfl (lv_at hl 3 rfl) ?_
  refine lv_iload_n hx hb dL_law_869 rfl (lv_at hl 0 rfl) ?_
  refine lv_iconst (v := 3) hx hb dL_law_870 rfl ?_
  refine lv_iadd hx hb dL_law_871 ?_
  refine zz_i (v := nI (6 * k9 + 3)) (nI_add (6 * k9) 3) ?_
  refine va_sld hx hb hX hbl hbA hS (vp_in_nI (n := 6 * k9 + 3) (N := L9) (by omega) (by omega)) dL_law_872 ?_
  refine zz_i (v := v3) ((congrArg xs (nI_clamp (by omega))).trans h3) ?_
  exact k
theorem la_22_1 {p : Program} {e : Env} {s : State} {m : MethodId} {below : List Frame} {meth : Method} {c : Code} (l : Launch) {b L9 : Nat} {xs : Nat → Int32} (C0 : lw_At p s m meth c b L9 xs) {x k0 k9 ce sl : Nat} (hk9 : 6 * k9 + 6 ≤ L9) (hL9 : L9 ≤ 3072) {H : Heap} {locs : List Loc} {ls : Array Slot} {rest : List Value} (hS : va_S (fun q : Nat => s.heap.size ≤ q) s.heap H locs) (hl : lv_has ls 4 [(3, .int (nI (6 * k9))), (2, .ref k0), (1, .ref x), (0, .ref b)]) {v1 : Int32} {v2 : Int32} (h1 : xs (6 * k9 + 1) = v1) (h2 : xs (6 * k9 + 2) = v2) (k : W p l e room_1 s m #[Value.ref b] below meth c H locs ce sl (lw_Z below #[Value.ref b] s) (F0 m 891 ls (.int v2 :: .int v1 :: .ref x :: rest))) : W p l e room_1 s m #[Value.ref b] below meth c H locs ce sl (lw_Z below #[Value.ref b] s) (F0 m 880 ls (rest)) := by
  obtain ⟨hx, hb, hr, hml, hown, hts1, hX, hbl, hlocks, hgv⟩ := id C0
  have hbA : ¬ (fun q : Nat => s.heap.size ≤ q) b := Nat.not_le.mpr hbl
  refine lv_aload_n hx hb dL_law_880 rfl (lv_at hl 2 rfl) ?_
  refine lv_aload_n hx hb dL_law_881 rfl (lv_at hl 3 rfl) ?_
  refine lv_iload_n hx hb dL_law_882 rfl (lv_at hl 0 rfl) ?_
  refine lv_iconst (v := 1) hx hb dL_law_883 rfl ?_
  refine lv_iadd hx hb dL_law_884 ?_
  refine zz_i (v := nI (6 * k9 + 1)) (nI_add (6 * k9) 1) ?_
  refine va_sld hx hb hX hbl hbA hS (vp_in_nI (n := 6 * k9 + 1) (N := L9) (by omega) (by omega)) dL_law_885 ?_
  refine zz_i (v := v1) ((congrArg xs (nI_clamp (by omega))).trans h1) ?_
  refine lv_aload_n hx hb dL_law_886 rfl (lv_at hl 3 rfl) ?_
  refine lv_iload_n hx hb dL_law_887 rfl (lv_at hl 0 rfl) ?_
  refine lv_iconst (v := 2) hx hb dL_law_888 rfl ?_
  refine lv_iadd hx hb dL_law_889 ?_
  refine zz_i (v := nI (6 * k9 + 2)) (nI_add (6 * k9) 2) ?_
  refine va_sld hx hb hX hbl hbA hS (vp_in_nI (n := 6 * k9 + 2) (N := L9) (by omega) (by omega)) dL_law_890 ?_
  refine zz_i (v := v2) ((congrArg xs (nI_clamp (by omega))).trans h2) ?_
  exact k
theorem la_22_2 {p : Program} {e : Env} {s : State} {m : MethodId} {below : List Frame} {meth : Method} {c : Code} (l : Launch) {b L9 : Nat} {xs : Nat → Int32} (C0 : lw_At p s m meth c b L9 xs) {x k0 k9 ce sl : Nat} (hk9 : 6 * k9 + 6 ≤ L9) (hL9 : L9 ≤ 3072) {H : Heap} {locs : List Loc} {ls : Array Slot} {rest : List Value} (hS : va_S (fun q : Nat => s.heap.size ≤ q) s.heap H locs) (hl : lv_has ls 4 [(3, .int (nI (6 * k9))), (2, .ref k0), (1, .ref x), (0, .ref b)]) {v1 : Int32} {v2 : Int32} (h1 : xs (6 * k9 + 1) = v1) (h2 : xs (6 * k9 + 2) = v2) (k : W p l e room_1 s m #[Value.ref b] below meth c H locs ce sl (lw_Z below #[Value.ref b] s) (F0 m 906 ls (.int v2 :: .int v1 :: .ref k0 :: rest))) : W p l e room_1 s m #[Value.ref b] below meth c H locs ce sl (lw_Z below #[Value.ref b] s) (F0 m 895 ls (rest)) := by
  obtain ⟨hx, hb, hr, hml, hown, hts1, hX, hbl, hlocks, hgv⟩ := id C0
  have hbA : ¬ (fun q : Nat => s.heap.size ≤ q) b := Nat.not_le.mpr hbl
  refine lv_aload_n hx hb dL_law_895 rfl (lv_at hl 1 rfl) ?_
  refine lv_aload_n hx hb dL_law_896 rfl (lv_at hl 3 rfl) ?_
  refine lv_iload_n hx hb dL_law_897 rfl (lv_at hl 0 rfl) ?_
  refine lv_iconst (v := 1) hx hb dL_law_898 rfl ?_
  refine lv_iadd hx hb dL_law_899 ?_
  refine zz_i (v := nI (6 * k9 + 1)) (nI_add (6 * k9) 1) ?_
  refine va_sld hx hb hX hbl hbA hS (vp_in_nI (n := 6 * k9 + 1) (N := L9) (by omega) (by omega)) dL_law_900 ?_
  refine zz_i (v := v1) ((congrArg xs (nI_clamp (by omega))).trans h1) ?_
  refine lv_aload_n hx hb dL_law_901 rfl (lv_at hl 3 rfl) ?_
  refine lv_iload_n hx hb dL_law_902 rfl (lv_at hl 0 rfl) ?_
  refine lv_iconst (v := 2) hx hb dL_law_903 rfl ?_
  refine lv_iadd hx hb dL_law_904 ?_
  refine zz_i (v := nI (6 * k9 + 2)) (nI_add (6 * k9) 2) ?_
  refine va_sld hx hb hX hbl hbA hS (vp_in_nI (n := 6 * k9 + 2) (N := L9) (by omega) (by omega)) dL_law_905 ?_
  refine zz_i (v := v2) ((congrArg xs (nI_clamp (by omega))).trans h2) ?_
  exact k
theorem la_23_1 {p : Program} {e : Env} {s : State} {m : MethodId} {below : List Frame} {meth : Method} {c : Code} (l : Launch) {b L9 : Nat} {xs : Nat → Int32} (C0 : lw_At p s m meth c b L9 xs) {x k0 k9 ce sl : Nat} (hk9 : 6 * k9 + 6 ≤ L9) (hL9 : L9 ≤ 3072) {H : Heap} {locs : List Loc} {ls : Array Slot} {rest : List Value} (hS : va_S (fun q : Nat => s.heap.size ≤ q) s.heap H locs) (hl : lv_has ls 4 [(3, .int (nI (6 * k9))), (2, .ref k0), (1, .ref x), (0, .ref b)]) {v1 : Int32} (h1 : xs (6 * k9 + 1) = v1) (k : W p l e room_1 s m #[Value.ref b] below meth c H locs ce sl (lw_Z below #[Value.ref b] s) (F0 m 919 ls (.int v1 :: .ref x :: rest))) : W p l e room_1 s m #[Value.ref b] below meth c H locs ce sl (lw_Z below #[Value.ref b] s) (F0 m 913 ls (rest)) := by
  obtain ⟨hx, hb, hr, hml, hown, hts1, hX, hbl, hlocks, hgv⟩ := id C0
  have hbA : ¬ (fun q : Nat => s.heap.size ≤ q) b := Nat.not_le.mpr hbl
  refine lv_aload_n hx hb dL_law_913 rfl (lv_at hl 2 rfl) ?_
  refine lv_aload_n hx hb dL_law_914 rfl (lv_at hl 3 rfl) ?_
  refine lv_iload_n hx hb dL_law_915 rfl (lv_at hl 0 rfl) ?_
  refine lv_iconst (v := 1) hx hb dL_law_916 rfl ?_
  refine lv_iadd hx hb dL_law_917 ?_
  refine zz_i (v := nI (6 * k9 + 1)) (nI_add (6 * k9) 1) ?_
  refine va_sld hx hb hX hbl hbA hS (vp_in_nI (n := 6 * k9 + 1) (N := L9) (by omega) (by omega)) dL_law_918 ?_
  refine zz_i (v := v1) ((congrArg xs (nI_clamp (by omega))).trans h1) ?_
  exact k
theorem la_23_2 {p : Program} {e : Env} {s : State} {m : MethodId} {below : List Frame} {meth : Method} {c : Code} (l : Launch) {b L9 : Nat} {xs : Nat → Int32} (C0 : lw_At p s m meth c b L9 xs) {x k0 k9 ce sl : Nat} (hk9 : 6 * k9 + 6 ≤ L9) (hL9 : L9 ≤ 3072) {H : Heap} {locs : List Loc} {ls : Array Slot} {rest : List Value} (hS : va_S (fun q : Nat => s.heap.size ≤ q) s.heap H locs) (hl : lv_has ls 4 [(3, .int (nI (6 * k9))), (2, .ref k0), (1, .ref x), (0, .ref b)]) {v1 : Int32} (h1 : xs (6 * k9 + 1) = v1) (k : W p l e room_1 s m #[Value.ref b] below meth c H locs ce sl (lw_Z below #[Value.ref b] s) (F0 m 929 ls (.int v1 :: .ref k0 :: rest))) : W p l e room_1 s m #[Value.ref b] below meth c H locs ce sl (lw_Z below #[Value.ref b] s) (F0 m 923 ls (rest)) := by
  obtain ⟨hx, hb, hr, hml, hown, hts1, hX, hbl, hlocks, hgv⟩ := id C0
  have hbA : ¬ (fun q : Nat => s.heap.size ≤ q) b := Nat.not_le.mpr hbl
  refine lv_aload_n hx hb dL_law_923 rfl (lv_at hl 1 rfl) ?_
  refine lv_aload_n hx hb dL_law_924 rfl (lv_at hl 3 rfl) ?_
  refine lv_iload_n hx hb dL_law_925 rfl (lv_at hl 0 rfl) ?_
  refine lv_iconst (v := 1) hx hb dL_law_926 rfl ?_
  refine lv_iadd hx hb dL_law_927 ?_
  refine zz_i (v := nI (6 * k9 + 1)) (nI_add (6 * k9) 1) ?_
  refine va_sld hx hb hX hbl hbA hS (vp_in_nI (n := 6 * k9 + 1) (N := L9) (by omega) (by omega)) dL_law_928 ?_
  refine zz_i (v := v1) ((congrArg xs (nI_clamp (by omega))).trans h1) ?_
  exact k
theorem la_24_1 {p : Program} {e : Env} {s : State} {m : MethodId} {below : List Frame} {meth : Method} {c : Code} (l : Launch) {b L9 : Nat} {xs : Nat → Int32} (C0 : lw_At p s m meth c b L9 xs) {x k0 k9 ce sl : Nat} (hk9 : 6 * k9 + 6 ≤ L9) (hL9 : L9 ≤ 3072) {H : Heap} {locs : List Loc} {ls : Array Slot} {rest : List Value} (hS : va_S (fun q : Nat => s.heap.size ≤ q) s.heap H locs) (hl : lv_has ls 4 [(3, .int (nI (6 * k9))), (2, .ref k0), (1, .ref x), (0, .ref b)]) {v1 : Int32} {v2 : Int32} {v3 : Int32} (h1 : xs (6 * k9 + 1) = v1) (h2 : xs (6 * k9 + 2) = v2) (h3 : xs (6 * k9 + 3) = v3) (k : W p l e room_1 s m #[Value.ref b] below meth c H locs ce sl (lw_Z below #[Value.ref b] s) (F0 m 952 ls (.int v3 :: .int v2 :: .int v1 :: .ref x :: rest))) : W p l e room_1 s m #[Value.ref b] below meth c H locs ce sl (lw_Z below #[Value.ref b] s) (F0 m 936 ls (rest)) := by
  obtain ⟨hx, hb, hr, hml, hown, hts1, hX, hbl, hlocks, hgv⟩ := id C0
  have hbA : ¬ (fun q : Nat => s.heap.size ≤ q) b := Nat.not_le.mpr hbl
  refine lv_aload_n hx hb dL_law_936 rfl (lv_at hl 2 rfl) ?_
  refine lv_aload_n hx hb dL_law_937 rfl (lv_at hl 3 rfl) ?_
  refine lv_iload_n hx hb dL_law_938 rfl (lv_at hl 0 rfl) ?_
  refine lv_iconst (v := 1) hx hb dL_law_939 rfl ?_
  refine lv_iadd hx hb dL_law_940 ?_
  refine zz_i (v := nI (6 * k9 + 1)) (nI_add (6 * k9) 1) ?_
  refine va_sld hx hb hX hbl hbA hS (vp_in_nI (n := 6 * k9 + 1) (N := L9) (by omega) (by omega)) dL_law_941 ?_
  refine zz_i (v := v1) ((congrArg xs (nI_clamp (by omega))).trans h1) ?_
  refine lv_aload_n hx hb dL_law_942 rfl (lv_at hl 3 rfl) ?_
  refine lv_iload_n hx hb dL_law_943 rfl (lv_at hl 0 rfl) ?_
  refine lv_iconst (v := 2) hx hb dL_law_944 rfl ?_
  refine lv_iadd hx hb dL_law_945 ?_
  refine zz_i (v := nI (6 * k9 + 2)) (nI_add (6 * k9) 2) ?_
  refine va_sld hx hb hX hbl hbA hS (vp_in_nI (n := 6 * k9 + 2) (N := L9) (by omega) (by omega)) dL_law_946 ?_
  refine zz_i (v := v2) ((congrArg xs (nI_clamp (by omega))).trans h2) ?_
  refine lv_aload_n hx hb dL_law_947 rfl (lv_at hl 3 rfl) ?_
  refine lv_iload_n hx hb dL_law_948 rfl (lv_at hl 0 rfl) ?_
  refine lv_iconst (v := 3) hx hb dL_law_949 rfl ?_
  refine lv_iadd hx hb dL_law_950 ?_
  refine zz_i (v := nI (6 * k9 + 3)) (nI_add (6 * k9) 3) ?_
  refine va_sld hx hb hX hbl hbA hS (vp_in_nI (n := 6 * k9 + 3) (N := L9) (by omega) (by omega)) dL_law_951 ?_
  refine zz_i (v := v3) ((congrArg xs (nI_clamp (by omega))).trans h3) ?_
  exact k
theorem la_24_2 {p : Program} {e : Env} {s : State} {m : MethodId} {below : List Frame} {meth : Method} {c : Code} (l : Launch) {b L9 : Nat} {xs : Nat → Int32} (C0 : lw_At p s m meth c b L9 xs) {x k0 k9 ce sl : Nat} (hk9 : 6 * k9 + 6 ≤ L9) (hL9 : L9 ≤ 3072) {H : Heap} {locs : List Loc} {ls : Array Slot} {rest : List Value} (hS : va_S (fun q : Nat => s.heap.size ≤ q) s.heap H locs) (hl : lv_has ls 4 [(3, .int (nI (6 * k9))), (2, .ref k0), (1, .ref x), (0, .ref b)]) {v1 : Int32} {v2 : Int32} {v3 : Int32} (h1 : xs (6 * k9 + 1) = v1) (h2 : xs (6 * k9 + 2) = v2) (h3 : xs (6 * k9 + 3) = v3) (k : W p l e room_1 s m #[Value.ref b] below meth c H locs ce sl (lw_Z below #[Value.ref b] s) (F0 m 972 ls (.int v3 :: .int v2 :: .int v1 :: .ref k0 :: rest))) : W p l e room_1 s m #[Value.ref b] below meth c H locs ce sl (lw_Z below #[Value.ref b] s) (F0 m 956 ls (rest)) := by
  obtain ⟨hx, hb, hr, hml, hown, hts1, hX, hbl, hlocks, hgv⟩ := id C0
  have hbA : ¬ (fun q : Nat => s.heap.size ≤ q) b := Nat.not_le.mpr hbl
  refine lv_aload_n hx hb dL_law_956 rfl (lv_at hl 1 rfl) ?_
  refine lv_aload_n hx hb dL_law_957 rfl (lv_at hl 3 rfl) ?_
  refine lv_iload_n hx hb dL_law_958 rfl (lv_at hl 0 rfl) ?_
  refine lv_iconst (v := 1) hx hb dL_law_959 rfl ?_
  refine lv_iadd hx hb dL_law_960 ?_
  refine zz_i (v := nI (6 * k9 + 1)) (nI_add (6 * k9) 1) ?_
  refine va_sld hx hb hX hbl hbA hS (vp_in_nI (n := 6 * k9 + 1) (N := L9) (by omega) (by omega)) dL_law_961 ?_
  refine zz_i (v := v1) ((congrArg xs (nI_clamp (by omega))).trans h1) ?_
  refine lv_aload_n hx hb dL_law_962 rfl (lv_at hl 3 rfl) ?_
  refine lv_iload_n hx hb dL_law_963 rfl (lv_at hl 0 rfl) ?_
  refine lv_iconst (v := 2) hx hb dL_law_964 rfl ?_
  refine lv_iadd hx hb dL_law_965 ?_
  refine zz_i (v := nI (6 * k9 + 2)) (nI_add (6 * k9) 2) ?_
  refine va_sld hx hb hX hbl hbA hS (vp_in_nI (n := 6 * k9 + 2) (N := L9) (by omega) (by omega)) dL_law_966 ?_
  refine zz_i (v := v2) ((congrArg xs (nI_clamp (by omega))).trans h2) ?_
  refine lv_aload_n hx hb dL_law_967 rfl (lv_at hl 3 rfl) ?_
  refine lv_iload_n hx hb dL_law_968 rfl (lv_at hl 0 rfl) ?_
  refine lv_iconst (v := 3) hx hb dL_law_969 rfl ?_
  refine lv_iadd hx hb dL_law_970 ?_
  refine zz_i (v := nI (6 * k9 + 3)) (nI_add (6 * k9) 3) ?_
  refine va_sld hx hb hX hbl hbA hS (vp_in_nI (n := 6 * k9 + 3) (N := L9) (by omega) (by omega)) dL_law_971 ?_
  refine zz_i (v := v3) ((congrArg xs (nI_clamp (by omega))).trans h3) ?_
  exact k
theorem la_25_1 {p : Program} {e : Env} {s : State} {m : MethodId} {below : List Frame} {meth : Method} {c : Code} (l : Launch) {b L9 : Nat} {xs : Nat → Int32} (C0 : lw_At p s m meth c b L9 xs) {x k0 k9 ce sl : Nat} (hk9 : 6 * k9 + 6 ≤ L9) (hL9 : L9 ≤ 3072) {H : Heap} {locs : List Loc} {ls : Array Slot} {rest : List Value} (hS : va_S (fun q : Nat => s.heap.size ≤ q) s.heap H locs) (hl : lv_has ls 4 [(3, .int (nI (6 * k9))), (2, .ref k0), (1, .ref x), (0, .ref b)]) {v1 : Int32} {v2 : Int32} (h1 : xs (6 * k9 + 1) = v1) (h2 : xs (6 * k9 + 2) = v2) (k : W p l e room_1 s m #[Value.ref b] below meth c H locs ce sl (lw_Z below #[Value.ref b] s) (F0 m 990 ls (.int v2 :: .int v1 :: .ref x :: rest))) : W p l e room_1 s m #[Value.ref b] below meth c H locs ce sl (lw_Z below #[Value.ref b] s) (F0 m 979 ls (rest)) := by
  obtain ⟨hx, hb, hr, hml, hown, hts1, hX, hbl, hlocks, hgv⟩ := id C0
  have hbA : ¬ (fun q : Nat => s.heap.size ≤ q) b := Nat.not_le.mpr hbl
  refine lv_aload_n hx hb dL_law_979 rfl (lv_at hl 2 rfl) ?_
  refine lv_aload_n hx hb dL_law_980 rfl (lv_at hl 3 rfl) ?_
  refine lv_iload_n hx hb dL_law_981 rfl (lv_at hl 0 rfl) ?_
  refine lv_iconst (v := 1) hx hb dL_law_982 rfl ?_
  refine lv_iadd hx hb dL_law_983 ?_
  refine zz_i (v := nI (6 * k9 + 1)) (nI_add (6 * k9) 1) ?_
  refine va_sld hx hb hX hbl hbA hS (vp_in_nI (n := 6 * k9 + 1) (N := L9) (by omega) (by omega)) dL_law_984 ?_
  refine zz_i (v := v1) ((congrArg xs (nI_clamp (by omega))).trans h1) ?_
  refine lv_aload_n hx hb dL_law_985 rfl (lv_at hl 3 rfl) ?_
  refine lv_iload_n hx hb dL_law_986 rfl (lv_at hl 0 rfl) ?_
  refine lv_iconst (v := 2) hx hb dL_law_987 rfl ?_
  refine lv_iadd hx hb dL_law_988 ?_
  refine zz_i (v := nI (6 * k9 + 2)) (nI_add (6 * k9) 2) ?_
  refine va_sld hx hb hX hbl hbA hS (vp_in_nI (n := 6 * k9 + 2) (N := L9) (by omega) (by omega)) dL_law_989 ?_
  refine zz_i (v := v2) ((congrArg xs (nI_clamp (by omega))).trans h2) ?_
  exact k
theorem la_25_2 {p : Program} {e : Env} {s : State} {m : MethodId} {below : List Frame} {meth : Method} {c : Code} (l : Launch) {b L9 : Nat} {xs : Nat → Int32} (C0 : lw_At p s m meth c b L9 xs) {x k0 k9 ce sl : Nat} (hk9 : 6 * k9 + 6 ≤ L9) (hL9 : L9 ≤ 3072) {H : Heap} {locs : List Loc} {ls : Array Slot} {rest : List Value} (hS : va_S (fun q : Nat => s.heap.size ≤ q) s.heap H locs) (hl : lv_has ls 4 [(3, .int (nI (6 * k9))), (2, .ref k0), (1, .ref x), (0, .ref b)]) {v1 : Int32} {v2 : Int32} (h1 : xs (6 * k9 + 1) = v1) (h2 : xs (6 * k9 + 2) = v2) (k : W p l e room_1 s m #[Value.ref b] below meth c H locs ce sl (lw_Z below #[Value.ref b] s) (F0 m 1005 ls (.int v2 :: .int v1 :: .ref k0 :: rest))) : W p l e room_1 s m #[Value.ref b] below meth c H locs ce sl (lw_Z below #[Value.ref b] s) (F0 m 994 ls (rest)) := by
  obtain ⟨hx, hb, hr, hml, hown, hts1, hX, hbl, hlocks, hgv⟩ := id C0
  have hbA : ¬ (fun q : Nat => s.heap.size ≤ q) b := Nat.not_le.mpr hbl
  refine lv_aload_n hx hb dL_law_994 rfl (lv_at hl 1 rfl) ?_
  refine lv_aload_n hx hb dL_law_995 rfl (lv_at hl 3 rfl) ?_
  refine lv_iload_n hx hb dL_law_996 rfl (lv_at hl 0 rfl) ?_
  refine lv_iconst (v := 1) hx hb dL_law_997 rfl ?_
  refine lv_iadd hx hb dL_law_998 ?_
  refine zz_i (v := nI (6 * k9 + 1)) (nI_add (6 * k9) 1) ?_
  refine va_sld hx hb hX hbl hbA hS (vp_in_nI (n := 6 * k9 + 1) (N := L9) (by omega) (by omega)) dL_law_999 ?_
  refine zz_i (v := v1) ((congrArg xs (nI_clamp (by omega))).trans h1) ?_
  refine lv_aload_n hx hb dL_law_1000 rfl (lv_at hl 3 rfl) ?_
  refine lv_iload_n hx hb dL_law_1001 rfl (lv_at hl 0 rfl) ?_
  refine lv_iconst (v := 2) hx hb dL_law_1002 rfl ?_
  refine lv_iadd hx hb dL_law_1003 ?_
  refine zz_i (v := nI (6 * k9 + 2)) (nI_add (6 * k9) 2) ?_
  refine va_sld hx hb hX hbl hbA hS (vp_in_nI (n := 6 * k9 + 2) (N := L9) (by omega) (by omega)) dL_law_1004 ?_
  refine zz_i (v := v2) ((congrArg xs (nI_clamp (by omega))).trans h2) ?_
  exact k
theorem la_26_1 {p : Program} {e : Env} {s : State} {m : MethodId} {below : List Frame} {meth : Method} {c : Code} (l : Launch) {b L9 : Nat} {xs : Nat → Int32} (C0 : lw_At p s m meth c b L9 xs) {x k0 k9 ce sl : Nat} (hk9 : 6 * k9 + 6 ≤ L9) (hL9 : L9 ≤ 3072) {H : Heap} {locs : List Loc} {ls : Array Slot} {rest : List Value} (hS : va_S (fun q : Nat => s.heap.size ≤ q) s.heap H locs) (hl : lv_has ls 4 [(3, .int (nI (6 * k9))), (2, .ref k0), (1, .ref x), (0, .ref b)]) {v1 : Int32} {v2 : Int32} (h1 : xs (6 * k9 + 1) = v1) (h2 : xs (6 * k9 + 2) = v2) (k : W p l e room_1 s m #[Value.ref b] below meth c H locs ce sl (lw_Z below #[Value.ref b] s) (F0 m 1023 ls (.int v2 :: .int v1 :: .ref x :: rest))) : W p l e room_1 s m #[Value.ref b] below meth c H locs ce sl (lw_Z below #[Value.ref b] s) (F0 m 1012 ls (rest)) := by
  obtain ⟨hx, hb, hr, hml, hown, hts1, hX, hbl, hlocks, hgv⟩ := id C0
  have hbA : ¬ (fun q : Nat => s.heap.size ≤ q) b := Nat.not_le.mpr hbl
  refine lv_aload_n hx hb dL_law_1012 rfl (lv_at hl 2 rfl) ?_
  refine lv_aload_n hx hb dL_law_1013 rfl (lv_at hl 3 rfl) ?_
  refine lv_iload_n hx hb dL_law_1014 rfl (lv_at hl 0 rfl) ?_
  refine lv_iconst (v := 1) hx hb dL_law_1015 rfl ?_
  refine lv_iadd hx hb dL_law_1016 ?_
  refine zz_i (v := nI (6 * k9 + 1)) (nI_add (6 * k9) 1) ?_
  refine va_sld hx hb hX hbl hbA hS (vp_in_nI (n := 6 * k9 + 1) (N := L9) (by omega) (by omega)) dL_law_1017 ?_
  refine zz_i (v := v1) ((congrArg xs (nI_clamp (by omega))).trans h1) ?_
  refine lv_aload_n hx hb dL_law_1018 rfl (lv_at hl 3 rfl) ?_
  refine lv_iload_n hx hb dL_law_1019 rfl (lv_at hl 0 rfl) ?_
  refine lv_iconst (v := 2) hx hb dL_law_1020 rfl ?_
  refine lv_iadd hx hb dL_law_1021 ?_
  refine zz_i (v := nI (6 * k9 + 2)) (nI_add (6 * k9) 2) ?_
  refine va_sld hx hb hX hbl hbA hS (vp_in_nI (n := 6 * k9 + 2) (N := L9) (by omega) (by omega)) dL_law_1022 ?_
  refine zz_i (v := v2) ((congrArg xs (nI_clamp (by omega))).trans h2) ?_
  exact k
theorem la_26_2 {p : Program} {e : Env} {s : State} {m : MethodId} {below : List Frame} {meth : Method} {c : Code} (l : Launch) {b L9 : Nat} {xs : Nat → Int32} (C0 : lw_At p s m meth c b L9 xs) {x k0 k9 ce sl : Nat} (hk9 : 6 * k9 + 6 ≤ L9) (hL9 : L9 ≤ 3072) {H : Heap} {locs : List Loc} {ls : Array Slot} {rest : List Value} (hS : va_S (fun q : Nat => s.heap.size ≤ q) s.heap H locs) (hl : lv_has ls 4 [(3, .int (nI (6 * k9))), (2, .ref k0), (1, .ref x), (0, .ref b)]) {v1 : Int32} {v2 : Int32} (h1 : xs (6 * k9 + 1) = v1) (h2 : xs (6 * k9 + 2) = v2) (k : W p l e room_1 s m #[Value.ref b] below meth c H locs ce sl (lw_Z below #[Value.ref b] s) (F0 m 1038 ls (.int v2 :: .int v1 :: .ref k0 :: rest))) : W p l e room_1 s m #[Value.ref b] below meth c H locs ce sl (lw_Z below #[Value.ref b] s) (F0 m 1027 ls (rest)) := by
  obtain ⟨hx, hb, hr, hml, hown, hts1, hX, hbl, hlocks, hgv⟩ := id C0
  have hbA : ¬ (fun q : Nat => s.heap.size ≤ q) b := Nat.not_le.mpr hbl
  refine lv_aload_n hx hb dL_law_1027 rfl (lv_at hl 1 rfl) ?_
  refine lv_aload_n hx hb dL_law_1028 rfl (lv_at hl 3 rfl) ?_
  refine lv_iload_n hx hb dL_law_1029 rfl (lv_at hl 0 rfl) ?_
  refine lv_iconst (v := 1) hx hb dL_law_1030 rfl ?_
  refine lv_iadd hx hb dL_law_1031 ?_
  refine zz_i (v := nI (6 * k9 + 1)) (nI_add (6 * k9) 1) ?_
  refine va_sld hx hb hX hbl hbA hS (vp_in_nI (n := 6 * k9 + 1) (N := L9) (by omega) (by omega)) dL_law_1032 ?_
  refine zz_i (v := v1) ((congrArg xs (nI_clamp (by omega))).trans h1) ?_
  refine lv_aload_n hx hb dL_law_1033 rfl (lv_at hl 3 rfl) ?_
  refine lv_iload_n hx hb dL_law_1034 rfl (lv_at hl 0 rfl) ?_
  refine lv_iconst (v := 2) hx hb dL_law_1035 rfl ?_
  refine lv_iadd hx hb dL_law_1036 ?_
  refine zz_i (v := nI (6 * k9 + 2)) (nI_add (6 * k9) 2) ?_
  refine va_sld hx hb hX hbl hbA hS (vp_in_nI (n := 6 * k9 + 2) (N := L9) (by omega) (by omega)) dL_law_1037 ?_
  refine zz_i (v := v2) ((congrArg xs (nI_clamp (by omega))).trans h2) ?_
  exact k
theorem la_27_1 {p : Program} {e : Env} {s : State} {m : MethodId} {below : List Frame} {meth : Method} {c : Code} (l : Launch) {b L9 : Nat} {xs : Nat → Int32} (C0 : lw_At p s m meth c b L9 xs) {x k0 k9 ce sl : Nat} (hk9 : 6 * k9 + 6 ≤ L9) (hL9 : L9 ≤ 3072) {H : Heap} {locs : List Loc} {ls : Array Slot} {rest : List Value} (hS : va_S (fun q : Nat => s.heap.size ≤ q) s.heap H locs) (hl : lv_has ls 4 [(3, .int (nI (6 * k9))), (2, .ref k0), (1, .ref x), (0, .ref b)]) {v1 : Int32} (h1 : xs (6 * k9 + 1) = v1) (k : W p l e room_1 s m #[Value.ref b] below meth c H locs ce sl (lw_Z below #[Value.ref b] s) (F0 m 1051 ls (.int v1 :: .ref x :: rest))) : W p l e room_1 s m #[Value.ref b] below meth c H locs ce sl (lw_Z below #[Value.ref b] s) (F0 m 1045 ls (rest)) := by
  obtain ⟨hx, hb, hr, hml, hown, hts1, hX, hbl, hlocks, hgv⟩ := id C0
  have hbA : ¬ (fun q : Nat => s.heap.size ≤ q) b := Nat.not_le.mpr hbl
  refine lv_aload_n hx hb dL_law_1045 rfl (lv_at hl 2 rfl) ?_
  refine lv_aload_n hx hb dL_law_1046 rfl (lv_at hl 3 rfl) ?_
  refine lv_iload_n hx hb dL_law_1047 rfl (lv_at hl 0 rfl) ?_
  refine lv_iconst (v := 1) hx hb dL_law_1048 rfl ?_
  refine lv_iadd hx hb dL_law_1049 ?_
  refine zz_i (v := nI (6 * k9 + 1)) (nI_add (6 * k9) 1) ?_
  refine va_sld hx hb hX hbl hbA hS (vp_in_nI (n := 6 * k9 + 1) (N := L9) (by omega) (by omega)) dL_law_1050 ?_
  refine zz_i (v := v1) ((congrArg xs (nI_clamp (by omega))).trans h1) ?_
  exact k
theorem la_27_2 {p : Program} {e : Env} {s : State} {m : MethodId} {below : List Frame} {meth : Method} {c : Code} (l : Launch) {b L9 : Nat} {xs : Nat → Int32} (C0 : lw_At p s m meth c b L9 xs) {x k0 k9 ce sl : Nat} (hk9 : 6 * k9 + 6 ≤ L9) (hL9 : L9 ≤ 3072) {H : Heap} {locs : List Loc} {ls : Array Slot} {rest : List Value} (hS : va_S (fun q : Nat => s.heap.size ≤ q) s.heap H locs) (hl : lv_has ls 4 [(3, .int (nI (6 * k9))), (2, .ref k0), (1, .ref x), (0, .ref b)]) {v1 : Int32} (h1 : xs (6 * k9 + 1) = v1) (k : W p l e room_1 s m #[Value.ref b] below meth c H locs ce sl (lw_Z below #[Value.ref b] s) (F0 m 1061 ls (.int v1 :: .ref k0 :: rest))) : W p l e room_1 s m #[Value.ref b] below meth c H locs ce sl (lw_Z below #[Value.ref b] s) (F0 m 1055 ls (rest)) := by
  obtain ⟨hx, hb, hr, hml, hown, hts1, hX, hbl, hlocks, hgv⟩ := id C0
  have hbA : ¬ (fun q : Nat => s.heap.size ≤ q) b := Nat.not_le.mpr hbl
  refine lv_aload_n hx hb dL_law_1055 rfl (lv_at hl 1 rfl) ?_
  refine lv_aload_n hx hb dL_law_1056 rfl (lv_at hl 3 rfl) ?_
  refine lv_iload_n hx hb dL_law_1057 rfl (lv_at hl 0 rfl) ?_
  refine lv_iconst (v := 1) hx hb dL_law_1058 rfl ?_
  refine lv_iadd hx hb dL_law_1059 ?_
  refine zz_i (v := nI (6 * k9 + 1)) (nI_add (6 * k9) 1) ?_
  refine va_sld hx hb hX hbl hbA hS (vp_in_nI (n := 6 * k9 + 1) (N := L9) (by omega) (by omega)) dL_law_1060 ?_
  refine zz_i (v := v1) ((congrArg xs (nI_clamp (by omega))).trans h1) ?_
  exact k
theorem la_28_1 {p : Program} {e : Env} {s : State} {m : MethodId} {below : List Frame} {meth : Method} {c : Code} (l : Launch) {b L9 : Nat} {xs : Nat → Int32} (C0 : lw_At p s m meth c b L9 xs) {x k0 k9 ce sl : Nat} (hk9 : 6 * k9 + 6 ≤ L9) (hL9 : L9 ≤ 3072) {H : Heap} {locs : List Loc} {ls : Array Slot} {rest : List Value} (hS : va_S (fun q : Nat => s.heap.size ≤ q) s.heap H locs) (hl : lv_has ls 4 [(3, .int (nI (6 * k9))), (2, .ref k0), (1, .ref x), (0, .ref b)]) (k : W p l e room_1 s m #[Value.ref b] below meth c H locs ce sl (lw_Z below #[Value.ref b] s) (F0 m 1069 ls (.ref x :: rest))) : W p l e room_1 s m #[Value.ref b] below meth c H locs ce sl (lw_Z below #[Value.ref b] s) (F0 m 1068 ls (rest)) := by
  obtain ⟨hx, hb, hr, hml, hown, hts1, hX, hbl, hlocks, hgv⟩ := id C0
  have hbA : ¬ (fun q : Nat => s.heap.size ≤ q) b := Nat.not_le.mpr hbl
  refine lv_aload_n hx hb dL_law_1068 rfl (lv_at hl 2 rfl) ?_
  exact k
theorem la_28_2 {p : Program} {e : Env} {s : State} {m : MethodId} {below : List Frame} {meth : Method} {c : Code} (l : Launch) {b L9 : Nat} {xs : Nat → Int32} (C0 : lw_At p s m meth c b L9 xs) {x k0 k9 ce sl : Nat} (hk9 : 6 * k9 + 6 ≤ L9) (hL9 : L9 ≤ 3072) {H : Heap} {locs : List Loc} {ls : Array Slot} {rest : List Value} (hS : va_S (fun q : Nat => s.heap.size ≤ q) s.heap H locs) (hl : lv_has ls 4 [(3, .int (nI (6 * k9))), (2, .ref k0), (1, .ref x), (0, .ref b)]) (k : W p l e room_1 s m #[Value.ref b] below meth c H locs ce sl (lw_Z below #[Value.ref b] s) (F0 m 1074 ls (.ref k0 :: rest))) : W p l e room_1 s m #[Value.ref b] below meth c H locs ce sl (lw_Z below #[Value.ref b] s) (F0 m 1073 ls (rest)) := by
  obtain ⟨hx, hb, hr, hml, hown, hts1, hX, hbl, hlocks, hgv⟩ := id C0
  have hbA : ¬ (fun q : Nat => s.heap.size ≤ q) b := Nat.not_le.mpr hbl
  refine lv_aload_n hx hb dL_law_1073 rfl (lv_at hl 1 rfl) ?_
  exact k
end
section
set_option maxHeartbeats 4000000 in
set_option maxRecDepth 100000 in
theorem lc_corner_x {p : Program} {e : Env} {s : State} {m : MethodId} {below : List Frame} {meth : Method} {c : Code} (l : Launch) {b L9 : Nat} {xs : Nat → Int32} (C0 : lw_At p s m meth c b L9 xs) (dC : Nat → ClassId) (dI : Nat → Nat → Nat) (cI cZ cF cO : ClassId) (e0 mi : Nat) (x sl sh fa lw dr dx dy tg tx ty wy wx wz br bo aa ro za zw zx zy zg bq bp dq dp lv k0 : Nat) (hK : va_K (dC, dI) classes (zTyO cI cZ cF cO) s) (hXL : zXL e0 mi (fun q : Nat => s.heap.size ≤ q) s) (L : List Nat) (f : Nat → va_E) (FA : Nat → Option Nat) (ea : Nat) (nd : Nat) (nt : Nat) (nw : Nat) (ul : Int32) (su : Int32) (mc9 : Int32) (rd : Int32) (rt : Int32) (rw : Int32) (P : Nat → Int32) (Q : Nat → Int32) (TX : Nat → Int32) (TY : Nat → Int32) (WX : Nat → Int32) (WY : Nat → Int32) (AR : Nat → Int32) (b1 : Int32) (b2 : Int32) (b3 : Int32) (b4 : Int32) (b5 : Int32) (b6 : Int32) (b7 : Int32) (b8 : Int32) (c1 : Int32) (c2 : Int32) (c3 : Int32) (c4 : Int32) (a1 : Int32) (a2 : Int32) (a3 : Int32) (a4 : Int32) (nv : Int32) (RA : Nat → Option Nat) (WT : Nat → Int32) (EX : Nat → Int32) (EY : Nat → Int32) (GR : Nat → Int32) (LV : Nat → Int32) (y1 : Int64) (y2 : Int64) (y3 : Int64) (y4 : Int64) (a : Nat → Nat) (I0 : Nat → Int32) (J0 : Nat → Int64) (kd : Nat → Int32) (st : Nat → Int32) (gb : Nat → Int32) (it : Nat → Int32) (pa : Nat → Int32) (pb : Nat → Int32) (rk : Nat → Int32) (wd : Nat → Int32) (tw : Nat → Int32) (tn : Nat → Int32) (mn : Nat → Int32) (cx : Nat → Int32) (cy : Nat → Int32) (sa : Nat → Int32) (shs : Nat → Int32) (wh : Nat → Int32) (of9 : Nat → Int32) (we : Nat → Int32) (la : Nat → Int32) (lb : Nat → Int32) (lc : Nat → Int32) (ld : Nat → Int32) (P0 : Nat → Int32) (Q0 : Nat → Int32) (S0 : Nat → Int32) (ox : Nat → Int32) (oy : Nat → Int32) (mt : Nat → Int32) (wi : Nat → Int32) (ins : Nat → Int32) (T0 : Nat → Int32) (fl : Nat → Int32) (mk : Nat → Int32) (jx : Nat → Int32) (jy : Nat → Int32) (gr : Nat → Int32) (bs : Nat) (dn : Nat) (T : Nat) (ft : Nat) (Sn : Nat) (AD : Nat) (C : Nat) (ln : Nat) (FT : Nat → Nat) (cc : Nat → Nat) (W9 : Nat → Nat) (V : Nat → Nat → Nat → Int32) (VX : Nat → Nat → Int32) (VY : Nat → Nat → Int32) (cp cl U k9 : Nat) (hk9 : 6 * k9 + 6 ≤ L9) (hL9 : L9 ≤ 3072) {H : Heap} {locs : List Loc} {ls : Array Slot} (hPD : zPD (dC, dI) classes (fun q : Nat => s.heap.size ≤ q) (((oc8 x (.ref sh) (.ref lw) (.ref ro) (.ref bq) (.ref bp) (.ref dq) (.ref dp) (.ref lv) (.ref sl) (nI dn) (nI bs) ul su) :: (oc10 sl mc9 (.ref ea) (nI T)) :: (oc7 sh (.ref fa) (nI ft)) :: (oq fa cF 200 FA) :: (oc3 lw (.ref dr) (.ref tg) (.ref wy) (.ref br) (.ref bo) (.ref aa)) :: (oc6 dr (.ref dx) (.ref dy) (nI nd) rd) :: (oa dx cI 40 P) :: (oa dy cI 40 Q) :: (oc6 tg (.ref tx) (.ref ty) (nI nt) rt) :: (oa tx cI 3 TX) :: (oa ty cI 3 TY) :: (oc6 wy (.ref wx) (.ref wz) (nI nw) rw) :: (oa wx cI 2 WX) :: (oa wz cI 2 WY) :: (oc0 br b1 b2 b3 b4) :: (oc0 bo b5 b6 b7 b8) :: (oa aa cI 40 AR) :: (oc5 ro (.ref za) (.ref zw) (.ref zx) (.ref zy) (.ref zg) nv) :: (oq za cF 200 RA) :: (oa zw cI 200 WT) :: (oa zx cI 400 EX) :: (oa zy cI 400 EY) :: (oa zg cI 400 GR) :: (oc0 bq c1 c2 c3 c4) :: (oc0 bp a1 a2 a3 a4) :: (oc2 dq y1 y2) :: (oc2 dp y3 y4) :: (oa lv cZ 200 LV) :: (om k0 a (upd I0 26 (nI ln)) J0) :: (oa (a 1) cI 201 kd) :: (oa (a 5) cI 201 st) :: (oa (a 7) cI 201 gb) :: (oa (a 10) cI 201 it) :: (oa (a 8) cI 201 pa) :: (oa (a 9) cI 201 pb) :: (oa (a 2) cI 201 rk) :: (oa (a 3) cI 201 wd) :: (oa (a 4) cI 201 tw) :: (oa (a 6) cZ 201 tn) :: (oa (a 11) cI 201 mn) :: (oa (a 12) cI 8040 cx) :: (oa (a 13) cI 8040 cy) :: (oa (a 27) cI 516 sa) :: (oa (a 28) cI (4096 * cp) shs) :: (oa (a 16) cI 514 wh) :: (oa (a 17) cI 514 of9) :: (oa (a 18) cI 514 we) :: (oa (a 22) cI (64 * cl) la) :: (oa (a 23) cI (64 * cl) lb) :: (oa (a 24) cI (64 * cl) lc) :: (oa (a 25) cI (64 * cl) ld) :: (oa (a 29) cI 42 P0) :: (oa (a 30) cI 42 Q0) :: (oa (a 32) cI 8 S0) :: (oa (a 33) cI 42 ox) :: (oa (a 34) cI 42 oy) :: (oa (a 37) cZ 201 mt) :: (oa (a 38) cZ 201 wi) :: (oa (a 39) cZ 8040 ins) :: (oa (a 40) cI 6 T0) :: (oa (a 43) cZ 40 fl) :: (oa (a 50) cZ 201 mk) :: (oa (a 51) cI 402 jx) :: (oa (a 52) cI 402 jy) :: (oa (a 53) cI 402 gr) :: []) ++ va_pl L f) H) (hS : va_S (fun q : Nat => s.heap.size ≤ q) s.heap H locs) (hl : lv_has ls 4 [(3, .int (nI (6 * k9))), (2, .ref k0), (1, .ref x), (0, .ref b)]) (hB : shB cI cO L f e0 FA ea bs dn T ft FT V VX VY tn rk wd tw pa pb wh of9 we kd st gb it mn cx cy) (hI : INV k9 Sn AD C cc W9 bs T ft cp ln cl FT V VX VY tn rk wd tw pa pb kd st it mn cx cy sa shs lb lc) (hM : I0 0 = nI ft ∧ I0 19 = nI dn ∧ I0 20 = nI (T - dn) ∧ I0 21 = nI bs) (hU : U ≤ Sn * (28 * (AD + C) + 1000) + 200 * (AD + C)) (hbad : ¬ (0 ≤ (xs (6 * k9 + 1)).toInt ∧ (xs (6 * k9 + 1)).toInt < ((ft : Nat) : Int))) (hnext : ∀ (cp1 cl1 U1 : Nat) (H : Heap) (locs : List Loc) (ls : Array Slot), lawI s dC dI cI cZ cF cO e0 mi x sl sh fa lw dr dx dy tg tx ty wy wx wz br bo aa ro za zw zx zy zg bq bp dq dp lv k0 (k9 + 1) cp1 cl1 U1 H → va_S (fun q : Nat => s.heap.size ≤ q) s.heap H locs → lv_has ls 4 [(3, .int (nI (6 * k9))), (2, .ref k0), (1, .ref x), (0, .ref b)] → W p l e room_1 s m #[Value.ref b] below meth c H locs (1000 + 1010 * (k9 + 1) + cp1 + 4 * cl1) (45000 + 8192 * cp1 + 512 * cl1 + U1) (lw_Z below #[Value.ref b] s) (F0 m 1081 ls [])) : W p l e room_1 s m #[Value.ref b] below meth c H locs (1000 + 1010 * k9 + cp + 4 * cl) (45000 + 8192 * cp + 512 * cl + U) (lw_Z below #[Value.ref b] s) (F0 m 217 ls []) := by
  obtain ⟨hP, hD⟩ := hPD
  obtain ⟨hx, hb, hr, hml, hown, hts1, hX, hbl, hlocks, hgv⟩ := id C0
  have hts : ∀ w9 ∈ ws0, w9.before #[Value.ref b] s = true := fun w9 h => hts1 w9 (List.mem_filter.mp h).1
  have hA : ∀ q : Nat, s.heap.size ≤ q → (fun q : Nat => s.heap.size ≤ q) q := fun _ h => h
  have hbA : ¬ (fun q : Nat => s.heap.size ≤ q) b := Nat.not_le.mpr hbl
  have hXN := hXL.1
  have hK3 := hK.sub [0, 1, 2] rfl
  obtain ⟨hm0, hm19, hm20, hm21⟩ := hM
  have hpo := shB_po hB
  have hK512 : k9 + 1 ≤ 512 := (by omega)
  have hwfS := hI.1.1
  have hbdC := hI.1.2.2.1
  have hT0 := hI.1.2.2.2
  have hd9 := hpo.1
  have h200t : ∀ t, bs ≤ t → t ≤ T → FT t ≤ 200 := fun t t1 t2 => Nat.le_trans (hpo.2.1 t T t1 t2 (Nat.le_refl _)) hd9.2.2.2.2
  have h200f : ft ≤ 200 := (by rw [hd9.2.2.2.1]; exact h200t dn hd9.1 hd9.2.1)
  have hrkA : ∀ q, lvF ft st tn q → 0 ≤ (rk q).toInt ∧ (rk q).toInt ≤ 9 := fun q hq => (hI.1.2.1 q (Nat.lt_of_lt_of_le hq.1 (by rw [hd9.2.2.2.1]; exact hpo.2.1 dn T hd9.1 hd9.2.1 (Nat.le_refl _)))).1
  have hwdA : ∀ q, q < ft → 0 ≤ (wd q).toInt ∧ (wd q).toInt ≤ 100 := fun q hq => (hI.1.2.1 q (Nat.lt_of_lt_of_le hq (by rw [hd9.2.2.2.1]; exact hpo.2.1 dn T hd9.1 hd9.2.1 (Nat.le_refl _)))).2
  have hcp5 := INV_cp hI (by omega)
  have hcp1 := hI.2.2.1.2.1
  have hcnt := hI.2.2.2.1
  have hlst := hI.2.2.2.2
  have hlb := mul_514 (a := Sn) (b := C) (by omega)
  have hftA := bdC_F hbdC
  have hrm := room_c (Sn := Sn) (AD := AD) (C := C) (c := cp) (cl := cl) (U := U) (by omega) hI.2.2.1.2.2.2.2.2 hlst.2.2.2.1 hU
  refine la_1_1 l C0 hk9 hL9 hS hl (rfl) (rfl) (rfl) ?_
  obtain ⟨hPc, hDc, hFc⟩ := zc_sub (wc := [_, _, _]) hP hD hS hA [0, 2, 3] rfl rfl
  refine zcall (st1 := [.int (-1)]) (va_runV (As := [.int (xs (6 * k9 + 1)), .int (xs (6 * k9 + 2)), .int (xs (6 * k9 + 3))]) (rest := []) ⟨hx, hb, hml, hown, hts⟩ (k_corner_x l dC dI cI cZ cF H.size x sh lw ro bq bp dq dp lv sl (nI bs) ul su (nI dn) fa ft FA (xs (6 * k9 + 1)) (xs (6 * k9 + 2)) (xs (6 * k9 + 3)) (h200f) (hbad)) (csV_231 hts rfl rfl ⟨Nat.le_of_ble_eq_true rfl, Nat.le_of_ble_eq_true rfl⟩) (zPV2 (q0 := 0) (ci := 8) hPc hDc hK3 hXN rfl rfl) rfl rfl hl.1 rfl (lv_room (Nat.le_of_ble_eq_true rfl)) dL_law_233 ⟨show 1000 + 1010 * k9 + cp + 4 * cl ≤ 600000 by omega, show 45000 + 8192 * cp + 512 * cl + U ≤ 7302250 by omega⟩) hS hFc hFc rfl (fun t H locs ht hB hk1 hS => ?_)
  obtain ⟨q_1, q_2, hP1, hD1⟩ := hB
  rw [ht] at hP1
  obtain ⟨hP, hD⟩ := zkQ (W2 := ((oc8 x (.ref sh) (.ref lw) (.ref ro) (.ref bq) (.ref bp) (.ref dq) (.ref dp) (.ref lv) (.ref sl) (nI dn) (nI bs) q_1 q_2) :: _ :: _ :: _ :: _ :: _ :: _ :: _ :: _ :: _ :: _ :: _ :: _ :: _ :: _ :: _ :: _ :: _ :: _ :: _ :: _ :: _ :: _ :: _ :: _ :: _ :: _ :: _ :: _ :: _ :: _ :: _ :: _ :: _ :: _ :: _ :: _ :: _ :: _ :: _ :: _ :: _ :: _ :: _ :: _ :: _ :: _ :: _ :: _ :: _ :: _ :: _ :: _ :: _ :: _ :: _ :: _ :: _ :: _ :: _ :: _ :: _ :: _ :: _ :: _ :: [])) hP hD [0, 2, 3] (1 :: 4 :: 5 :: 6 :: 7 :: 8 :: 9 :: 10 :: 11 :: 12 :: 13 :: 14 :: 15 :: 16 :: 17 :: 18 :: 19 :: 20 :: 21 :: 22 :: 23 :: 24 :: 25 :: 26 :: 27 :: 28 :: 29 :: 30 :: 31 :: 32 :: 33 :: 34 :: 35 :: 36 :: 37 :: 38 :: 39 :: 40 :: 41 :: 42 :: 43 :: 44 :: 45 :: 46 :: 47 :: 48 :: 49 :: 50 :: 51 :: 52 :: 53 :: 54 :: 55 :: 56 :: 57 :: 58 :: 59 :: 60 :: 61 :: 62 :: 63 :: 64 :: []) (1 :: 4 :: 5 :: 6 :: 7 :: 8 :: 9 :: 10 :: 11 :: 12 :: 13 :: 14 :: 15 :: 16 :: 17 :: 18 :: 19 :: 20 :: 21 :: 22 :: 23 :: 24 :: 25 :: 26 :: 27 :: 28 :: 29 :: 30 :: 31 :: 32 :: 33 :: 34 :: 35 :: 36 :: 37 :: 38 :: 39 :: 40 :: 41 :: 42 :: 43 :: 44 :: 45 :: 46 :: 47 :: 48 :: 49 :: 50 :: 51 :: 52 :: 53 :: 54 :: 55 :: 56 :: 57 :: 58 :: 59 :: 60 :: 61 :: 62 :: 63 :: 64 :: []) [0, 2, 3] (62 :: 0 :: 63 :: 64 :: 1 :: 2 :: 3 :: 4 :: 5 :: 6 :: 7 :: 8 :: 9 :: 10 :: 11 :: 12 :: 13 :: 14 :: 15 :: 16 :: 17 :: 18 :: 19 :: 20 :: 21 :: 22 :: 23 :: 24 :: 25 :: 26 :: 27 :: 28 :: 29 :: 30 :: 31 :: 32 :: 33 :: 34 :: 35 :: 36 :: 37 :: 38 :: 39 :: 40 :: 41 :: 42 :: 43 :: 44 :: 45 :: 46 :: 47 :: 48 :: 49 :: 50 :: 51 :: 52 :: 53 :: 54 :: 55 :: 56 :: 57 :: 58 :: 59 :: 60 :: 61 :: []) 65 rfl rfl rfl rfl rfl rfl rfl rfl rfl hk1 hFc hP1 hD1
  clear hk1 hPc hDc hFc hP1 hD1 ht
  refine lv_pop hx hb dL_law_236 rfl ?_
  refine la_1_2 l C0 hk9 hL9 hS hl (rfl) (rfl) (rfl) ?_
  obtain ⟨hPc, hDc, hFc⟩ := zc_sub (wc := [_]) hP hD hS hA [28] rfl rfl
  refine zcall (st1 := [.int (-1)]) (va_runV (As := [.int (xs (6 * k9 + 1)), .int (xs (6 * k9 + 2)), .int (xs (6 * k9 + 3))]) (rest := []) ⟨hx, hb, hml, hown, hts⟩ (k_M_corner_x l dC dI cI cZ cF H.size k0 a (upd I0 26 (nI ln)) J0 ft (xs (6 * k9 + 1)) (xs (6 * k9 + 2)) (xs (6 * k9 + 3)) (hm0) (h200f) (hbad)) (csV_232 hts rfl rfl ⟨Nat.le_of_ble_eq_true rfl, Nat.le_of_ble_eq_true rfl⟩) (zPV2 (q0 := 0) (ci := 9) hPc hDc hK3 hXN rfl rfl) rfl rfl hl.1 rfl (lv_room (Nat.le_of_ble_eq_true rfl)) dL_law_253 ⟨show 1000 + 1010 * k9 + cp + 4 * cl ≤ 600000 by omega, show 45000 + 8192 * cp + 512 * cl + U ≤ 7302250 by omega⟩) hS hFc hFc rfl (fun t H locs ht hB hk1 hS => ?_)
  obtain ⟨hP1, hD1⟩ := hB
  rw [ht] at hP1
  obtain ⟨hP, hD⟩ := zkQ (W2 := (_ :: _ :: _ :: _ :: _ :: _ :: _ :: _ :: _ :: _ :: _ :: _ :: _ :: _ :: _ :: _ :: _ :: _ :: _ :: _ :: _ :: _ :: _ :: _ :: _ :: _ :: _ :: _ :: (om k0 a (upd (upd (upd I0 14 1) 15 (I0 15)) 26 (nI ln)) J0) :: _ :: _ :: _ :: _ :: _ :: _ :: _ :: _ :: _ :: _ :: _ :: _ :: _ :: _ :: _ :: _ :: _ :: _ :: _ :: _ :: _ :: _ :: _ :: _ :: _ :: _ :: _ :: _ :: _ :: _ :: _ :: _ :: _ :: _ :: _ :: _ :: [])) hP hD [28] (0 :: 1 :: 2 :: 3 :: 4 :: 5 :: 6 :: 7 :: 8 :: 9 :: 10 :: 11 :: 12 :: 13 :: 14 :: 15 :: 16 :: 17 :: 18 :: 19 :: 20 :: 21 :: 22 :: 23 :: 24 :: 25 :: 26 :: 27 :: 29 :: 30 :: 31 :: 32 :: 33 :: 34 :: 35 :: 36 :: 37 :: 38 :: 39 :: 40 :: 41 :: 42 :: 43 :: 44 :: 45 :: 46 :: 47 :: 48 :: 49 :: 50 :: 51 :: 52 :: 53 :: 54 :: 55 :: 56 :: 57 :: 58 :: 59 :: 60 :: 61 :: 62 :: 63 :: 64 :: []) (0 :: 1 :: 2 :: 3 :: 4 :: 5 :: 6 :: 7 :: 8 :: 9 :: 10 :: 11 :: 12 :: 13 :: 14 :: 15 :: 16 :: 17 :: 18 :: 19 :: 20 :: 21 :: 22 :: 23 :: 24 :: 25 :: 26 :: 27 :: 29 :: 30 :: 31 :: 32 :: 33 :: 34 :: 35 :: 36 :: 37 :: 38 :: 39 :: 40 :: 41 :: 42 :: 43 :: 44 :: 45 :: 46 :: 47 :: 48 :: 49 :: 50 :: 51 :: 52 :: 53 :: 54 :: 55 :: 56 :: 57 :: 58 :: 59 :: 60 :: 61 :: 62 :: 63 :: 64 :: []) [28] (0 :: 1 :: 2 :: 3 :: 4 :: 5 :: 6 :: 7 :: 8 :: 9 :: 10 :: 11 :: 12 :: 13 :: 14 :: 15 :: 16 :: 17 :: 18 :: 19 :: 20 :: 21 :: 22 :: 23 :: 24 :: 25 :: 26 :: 27 :: 64 :: 28 :: 29 :: 30 :: 31 :: 32 :: 33 :: 34 :: 35 :: 36 :: 37 :: 38 :: 39 :: 40 :: 41 :: 42 :: 43 :: 44 :: 45 :: 46 :: 47 :: 48 :: 49 :: 50 :: 51 :: 52 :: 53 :: 54 :: 55 :: 56 :: 57 :: 58 :: 59 :: 60 :: 61 :: 62 :: 63 :: []) 65 rfl rfl rfl rfl rfl rfl rfl rfl rfl hk1 hFc hP1 hD1
  clear hk1 hPc hDc hFc hP1 hD1 ht
  refine lv_pop hx hb dL_law_256 rfl ?_
  refine lv_goto (tgt := 1081) hx hb dL_law_257 rfl ?_
  obtain ⟨hP9, hD9⟩ := zq_part (cx := (_ :: _ :: _ :: _ :: _ :: _ :: _ :: _ :: _ :: _ :: _ :: _ :: _ :: _ :: _ :: _ :: _ :: _ :: _ :: _ :: _ :: _ :: _ :: _ :: _ :: _ :: _ :: _ :: _ :: _ :: _ :: _ :: _ :: _ :: _ :: _ :: _ :: _ :: _ :: _ :: _ :: _ :: _ :: _ :: _ :: _ :: _ :: _ :: _ :: _ :: _ :: _ :: _ :: _ :: _ :: _ :: _ :: _ :: _ :: _ :: _ :: _ :: _ :: _ :: _ :: [])) hP hD (0 :: 1 :: 2 :: 3 :: 4 :: 5 :: 6 :: 7 :: 8 :: 9 :: 10 :: 11 :: 12 :: 13 :: 14 :: 15 :: 16 :: 17 :: 18 :: 19 :: 20 :: 21 :: 22 :: 23 :: 24 :: 25 :: 26 :: 27 :: 28 :: 29 :: 30 :: 31 :: 32 :: 33 :: 34 :: 35 :: 36 :: 37 :: 38 :: 39 :: 40 :: 41 :: 42 :: 43 :: 44 :: 45 :: 46 :: 47 :: 48 :: 49 :: 50 :: 51 :: 52 :: 53 :: 54 :: 55 :: 56 :: 57 :: 58 :: 59 :: 60 :: 61 :: 62 :: 63 :: 64 :: []) rfl rfl
  refine W.widen (k := 1000 + 1010 * (k9 + 1) + cp + 4 * cl) (n := 45000 + 8192 * cp + 512 * cl + U) (by omega) (by omega) ?_
  have e26 : upd (upd (upd (upd I0 14 1) 15 (I0 15)) 26 (nI ln)) 26 (nI ln) = (upd (upd (upd I0 14 1) 15 (I0 15)) 26 (nI ln)) := up_same rfl
  exact hnext cp cl U H locs ls (lawI_in L f FA ea nd nt nw q_1 q_2 mc9 rd rt rw P Q TX TY WX WY AR b1 b2 b3 b4 b5 b6 b7 b8 c1 c2 c3 c4 a1 a2 a3 a4 nv RA WT EX EY GR LV y1 y2 y3 y4 a (upd (upd (upd I0 14 1) 15 (I0 15)) 26 (nI ln)) J0 kd st gb it pa pb rk wd tw tn mn cx cy sa shs wh of9 we la lb lc ld P0 Q0 S0 ox oy mt wi ins T0 fl mk jx jy gr bs dn T ft Sn AD C ln FT cc W9 V VX VY (by rw [e26]; exact hP9) (by rw [e26]; exact hD9) (hB) (INV_K hI) ⟨hm0, hm19, hm20, hm21⟩ (by omega)) hS (lv_sub hl [0, 1, 2, 3] rfl)
set_option maxHeartbeats 4000000 in
set_option maxRecDepth 100000 in
theorem lc_tear_x {p : Program} {e : Env} {s : State} {m : MethodId} {below : List Frame} {meth : Method} {c : Code} (l : Launch) {b L9 : Nat} {xs : Nat → Int32} (C0 : lw_At p s m meth c b L9 xs) (dC : Nat → ClassId) (dI : Nat → Nat → Nat) (cI cZ cF cO : ClassId) (e0 mi : Nat) (x sl sh fa lw dr dx dy tg tx ty wy wx wz br bo aa ro za zw zx zy zg bq bp dq dp lv k0 : Nat) (hK : va_K (dC, dI) classes (zTyO cI cZ cF cO) s) (hXL : zXL e0 mi (fun q : Nat => s.heap.size ≤ q) s) (L : List Nat) (f : Nat → va_E) (FA : Nat → Option Nat) (ea : Nat) (nd : Nat) (nt : Nat) (nw : Nat) (ul : Int32) (su : Int32) (mc9 : Int32) (rd : Int32) (rt : Int32) (rw : Int32) (P : Nat → Int32) (Q : Nat → Int32) (TX : Nat → Int32) (TY : Nat → Int32) (WX : Nat → Int32) (WY : Nat → Int32) (AR : Nat → Int32) (b1 : Int32) (b2 : Int32) (b3 : Int32) (b4 : Int32) (b5 : Int32) (b6 : Int32) (b7 : Int32) (b8 : Int32) (c1 : Int32) (c2 : Int32) (c3 : Int32) (c4 : Int32) (a1 : Int32) (a2 : Int32) (a3 : Int32) (a4 : Int32) (nv : Int32) (RA : Nat → Option Nat) (WT : Nat → Int32) (EX : Nat → Int32) (EY : Nat → Int32) (GR : Nat → Int32) (LV : Nat → Int32) (y1 : Int64) (y2 : Int64) (y3 : Int64) (y4 : Int64) (a : Nat → Nat) (I0 : Nat → Int32) (J0 : Nat → Int64) (kd : Nat → Int32) (st : Nat → Int32) (gb : Nat → Int32) (it : Nat → Int32) (pa : Nat → Int32) (pb : Nat → Int32) (rk : Nat → Int32) (wd : Nat → Int32) (tw : Nat → Int32) (tn : Nat → Int32) (mn : Nat → Int32) (cx : Nat → Int32) (cy : Nat → Int32) (sa : Nat → Int32) (shs : Nat → Int32) (wh : Nat → Int32) (of9 : Nat → Int32) (we : Nat → Int32) (la : Nat → Int32) (lb : Nat → Int32) (lc : Nat → Int32) (ld : Nat → Int32) (P0 : Nat → Int32) (Q0 : Nat → Int32) (S0 : Nat → Int32) (ox : Nat → Int32) (oy : Nat → Int32) (mt : Nat → Int32) (wi : Nat → Int32) (ins : Nat → Int32) (T0 : Nat → Int32) (fl : Nat → Int32) (mk : Nat → Int32) (jx : Nat → Int32) (jy : Nat → Int32) (gr : Nat → Int32) (bs : Nat) (dn : Nat) (T : Nat) (ft : Nat) (Sn : Nat) (AD : Nat) (C : Nat) (ln : Nat) (FT : Nat → Nat) (cc : Nat → Nat) (W9 : Nat → Nat) (V : Nat → Nat → Nat → Int32) (VX : Nat → Nat → Int32) (VY : Nat → Nat → Int32) (cp cl U k9 : Nat) (hk9 : 6 * k9 + 6 ≤ L9) (hL9 : L9 ≤ 3072) {H : Heap} {locs : List Loc} {ls : Array Slot} (hPD : zPD (dC, dI) classes (fun q : Nat => s.heap.size ≤ q) (((oc8 x (.ref sh) (.ref lw) (.ref ro) (.ref bq) (.ref bp) (.ref dq) (.ref dp) (.ref lv) (.ref sl) (nI dn) (nI bs) ul su) :: (oc10 sl mc9 (.ref ea) (nI T)) :: (oc7 sh (.ref fa) (nI ft)) :: (oq fa cF 200 FA) :: (oc3 lw (.ref dr) (.ref tg) (.ref wy) (.ref br) (.ref bo) (.ref aa)) :: (oc6 dr (.ref dx) (.ref dy) (nI nd) rd) :: (oa dx cI 40 P) :: (oa dy cI 40 Q) :: (oc6 tg (.ref tx) (.ref ty) (nI nt) rt) :: (oa tx cI 3 TX) :: (oa ty cI 3 TY) :: (oc6 wy (.ref wx) (.ref wz) (nI nw) rw) :: (oa wx cI 2 WX) :: (oa wz cI 2 WY) :: (oc0 br b1 b2 b3 b4) :: (oc0 bo b5 b6 b7 b8) :: (oa aa cI 40 AR) :: (oc5 ro (.ref za) (.ref zw) (.ref zx) (.ref zy) (.ref zg) nv) :: (oq za cF 200 RA) :: (oa zw cI 200 WT) :: (oa zx cI 400 EX) :: (oa zy cI 400 EY) :: (oa zg cI 400 GR) :: (oc0 bq c1 c2 c3 c4) :: (oc0 bp a1 a2 a3 a4) :: (oc2 dq y1 y2) :: (oc2 dp y3 y4) :: (oa lv cZ 200 LV) :: (om k0 a (upd I0 26 (nI ln)) J0) :: (oa (a 1) cI 201 kd) :: (oa (a 5) cI 201 st) :: (oa (a 7) cI 201 gb) :: (oa (a 10) cI 201 it) :: (oa (a 8) cI 201 pa) :: (oa (a 9) cI 201 pb) :: (oa (a 2) cI 201 rk) :: (oa (a 3) cI 201 wd) :: (oa (a 4) cI 201 tw) :: (oa (a 6) cZ 201 tn) :: (oa (a 11) cI 201 mn) :: (oa (a 12) cI 8040 cx) :: (oa (a 13) cI 8040 cy) :: (oa (a 27) cI 516 sa) :: (oa (a 28) cI (4096 * cp) shs) :: (oa (a 16) cI 514 wh) :: (oa (a 17) cI 514 of9) :: (oa (a 18) cI 514 we) :: (oa (a 22) cI (64 * cl) la) :: (oa (a 23) cI (64 * cl) lb) :: (oa (a 24) cI (64 * cl) lc) :: (oa (a 25) cI (64 * cl) ld) :: (oa (a 29) cI 42 P0) :: (oa (a 30) cI 42 Q0) :: (oa (a 32) cI 8 S0) :: (oa (a 33) cI 42 ox) :: (oa (a 34) cI 42 oy) :: (oa (a 37) cZ 201 mt) :: (oa (a 38) cZ 201 wi) :: (oa (a 39) cZ 8040 ins) :: (oa (a 40) cI 6 T0) :: (oa (a 43) cZ 40 fl) :: (oa (a 50) cZ 201 mk) :: (oa (a 51) cI 402 jx) :: (oa (a 52) cI 402 jy) :: (oa (a 53) cI 402 gr) :: []) ++ va_pl L f) H) (hS : va_S (fun q : Nat => s.heap.size ≤ q) s.heap H locs) (hl : lv_has ls 4 [(3, .int (nI (6 * k9))), (2, .ref k0), (1, .ref x), (0, .ref b)]) (hB : shB cI cO L f e0 FA ea bs dn T ft FT V VX VY tn rk wd tw pa pb wh of9 we kd st gb it mn cx cy) (hI : INV k9 Sn AD C cc W9 bs T ft cp ln cl FT V VX VY tn rk wd tw pa pb kd st it mn cx cy sa shs lb lc) (hM : I0 0 = nI ft ∧ I0 19 = nI dn ∧ I0 20 = nI (T - dn) ∧ I0 21 = nI bs) (hU : U ≤ Sn * (28 * (AD + C) + 1000) + 200 * (AD + C)) (hbad : ¬ (0 ≤ (xs (6 * k9 + 1)).toInt ∧ (xs (6 * k9 + 1)).toInt < ((ft : Nat) : Int))) (hnext : ∀ (cp1 cl1 U1 : Nat) (H : Heap) (locs : List Loc) (ls : Array Slot), lawI s dC dI cI cZ cF cO e0 mi x sl sh fa lw dr dx dy tg tx ty wy wx wz br bo aa ro za zw zx zy zg bq bp dq dp lv k0 (k9 + 1) cp1 cl1 U1 H → va_S (fun q : Nat => s.heap.size ≤ q) s.heap H locs → lv_has ls 4 [(3, .int (nI (6 * k9))), (2, .ref k0), (1, .ref x), (0, .ref b)] → W p l e room_1 s m #[Value.ref b] below meth c H locs (1000 + 1010 * (k9 + 1) + cp1 + 4 * cl1) (45000 + 8192 * cp1 + 512 * cl1 + U1) (lw_Z below #[Value.ref b] s) (F0 m 1081 ls [])) : W p l e room_1 s m #[Value.ref b] below meth c H locs (1000 + 1010 * k9 + cp + 4 * cl) (45000 + 8192 * cp + 512 * cl + U) (lw_Z below #[Value.ref b] s) (F0 m 260 ls []) := by
  obtain ⟨hP, hD⟩ := hPD
  obtain ⟨hx, hb, hr, hml, hown, hts1, hX, hbl, hlocks, hgv⟩ := id C0
  have hts : ∀ w9 ∈ ws0, w9.before #[Value.ref b] s = true := fun w9 h => hts1 w9 (List.mem_filter.mp h).1
  have hA : ∀ q : Nat, s.heap.size ≤ q → (fun q : Nat => s.heap.size ≤ q) q := fun _ h => h
  have hbA : ¬ (fun q : Nat => s.heap.size ≤ q) b := Nat.not_le.mpr hbl
  have hXN := hXL.1
  have hK3 := hK.sub [0, 1, 2] rfl
  obtain ⟨hm0, hm19, hm20, hm21⟩ := hM
  have hpo := shB_po hB
  have hK512 : k9 + 1 ≤ 512 := (by omega)
  have hwfS := hI.1.1
  have hbdC := hI.1.2.2.1
  have hT0 := hI.1.2.2.2
  have hd9 := hpo.1
  have h200t : ∀ t, bs ≤ t → t ≤ T → FT t ≤ 200 := fun t t1 t2 => Nat.le_trans (hpo.2.1 t T t1 t2 (Nat.le_refl _)) hd9.2.2.2.2
  have h200f : ft ≤ 200 := (by rw [hd9.2.2.2.1]; exact h200t dn hd9.1 hd9.2.1)
  have hrkA : ∀ q, lvF ft st tn q → 0 ≤ (rk q).toInt ∧ (rk q).toInt ≤ 9 := fun q hq => (hI.1.2.1 q (Nat.lt_of_lt_of_le hq.1 (by rw [hd9.2.2.2.1]; exact hpo.2.1 dn T hd9.1 hd9.2.1 (Nat.le_refl _)))).1
  have hwdA : ∀ q, q < ft → 0 ≤ (wd q).toInt ∧ (wd q).toInt ≤ 100 := fun q hq => (hI.1.2.1 q (Nat.lt_of_lt_of_le hq (by rw [hd9.2.2.2.1]; exact hpo.2.1 dn T hd9.1 hd9.2.1 (Nat.le_refl _)))).2
  have hcp5 := INV_cp hI (by omega)
  have hcp1 := hI.2.2.1.2.1
  have hcnt := hI.2.2.2.1
  have hlst := hI.2.2.2.2
  have hlb := mul_514 (a := Sn) (b := C) (by omega)
  have hftA := bdC_F hbdC
  have hrm := room_c (Sn := Sn) (AD := AD) (C := C) (c := cp) (cl := cl) (U := U) (by omega) hI.2.2.1.2.2.2.2.2 hlst.2.2.2.1 hU
  refine la_2_1 l C0 hk9 hL9 hS hl (rfl) ?_
  obtain ⟨hPc, hDc, hFc⟩ := zc_sub (wc := [_, _, _]) hP hD hS hA [0, 2, 3] rfl rfl
  refine zcall (st1 := [.int 0]) (va_runV (As := [.int (xs (6 * k9 + 1))]) (rest := []) ⟨hx, hb, hml, hown, hts⟩ (k_tear_x l dC dI cI cZ cF H.size x sh lw ro bq bp dq dp lv sl (nI bs) ul su (nI dn) fa ft FA (xs (6 * k9 + 1)) (h200f) (hbad)) (csV_233 hts rfl rfl ⟨Nat.le_of_ble_eq_true rfl, Nat.le_of_ble_eq_true rfl⟩) (zPV2 (q0 := 0) (ci := 8) hPc hDc hK3 hXN rfl rfl) rfl rfl hl.1 rfl (lv_room (Nat.le_of_ble_eq_true rfl)) dL_law_266 ⟨show 1000 + 1010 * k9 + cp + 4 * cl ≤ 600000 by omega, show 45000 + 8192 * cp + 512 * cl + U ≤ 7302250 by omega⟩) hS hFc hFc rfl (fun t H locs ht hB hk1 hS => ?_)
  obtain ⟨q_1, q_2, hP1, hD1⟩ := hB
  rw [ht] at hP1
  obtain ⟨hP, hD⟩ := zkQ (W2 := ((oc8 x (.ref sh) (.ref lw) (.ref ro) (.ref bq) (.ref bp) (.ref dq) (.ref dp) (.ref lv) (.ref sl) (nI dn) (nI bs) q_1 q_2) :: _ :: _ :: _ :: _ :: _ :: _ :: _ :: _ :: _ :: _ :: _ :: _ :: _ :: _ :: _ :: _ :: _ :: _ :: _ :: _ :: _ :: _ :: _ :: _ :: _ :: _ :: _ :: _ :: _ :: _ :: _ :: _ :: _ :: _ :: _ :: _ :: _ :: _ :: _ :: _ :: _ :: _ :: _ :: _ :: _ :: _ :: _ :: _ :: _ :: _ :: _ :: _ :: _ :: _ :: _ :: _ :: _ :: _ :: _ :: _ :: _ :: _ :: _ :: _ :: [])) hP hD [0, 2, 3] (1 :: 4 :: 5 :: 6 :: 7 :: 8 :: 9 :: 10 :: 11 :: 12 :: 13 :: 14 :: 15 :: 16 :: 17 :: 18 :: 19 :: 20 :: 21 :: 22 :: 23 :: 24 :: 25 :: 26 :: 27 :: 28 :: 29 :: 30 :: 31 :: 32 :: 33 :: 34 :: 35 :: 36 :: 37 :: 38 :: 39 :: 40 :: 41 :: 42 :: 43 :: 44 :: 45 :: 46 :: 47 :: 48 :: 49 :: 50 :: 51 :: 52 :: 53 :: 54 :: 55 :: 56 :: 57 :: 58 :: 59 :: 60 :: 61 :: 62 :: 63 :: 64 :: []) (1 :: 4 :: 5 :: 6 :: 7 :: 8 :: 9 :: 10 :: 11 :: 12 :: 13 :: 14 :: 15 :: 16 :: 17 :: 18 :: 19 :: 20 :: 21 :: 22 :: 23 :: 24 :: 25 :: 26 :: 27 :: 28 :: 29 :: 30 :: 31 :: 32 :: 33 :: 34 :: 35 :: 36 :: 37 :: 38 :: 39 :: 40 :: 41 :: 42 :: 43 :: 44 :: 45 :: 46 :: 47 :: 48 :: 49 :: 50 :: 51 :: 52 :: 53 :: 54 :: 55 :: 56 :: 57 :: 58 :: 59 :: 60 :: 61 :: 62 :: 63 :: 64 :: []) [0, 2, 3] (62 :: 0 :: 63 :: 64 :: 1 :: 2 :: 3 :: 4 :: 5 :: 6 :: 7 :: 8 :: 9 :: 10 :: 11 :: 12 :: 13 :: 14 :: 15 :: 16 :: 17 :: 18 :: 19 :: 20 :: 21 :: 22 :: 23 :: 24 :: 25 :: 26 :: 27 :: 28 :: 29 :: 30 :: 31 :: 32 :: 33 :: 34 :: 35 :: 36 :: 37 :: 38 :: 39 :: 40 :: 41 :: 42 :: 43 :: 44 :: 45 :: 46 :: 47 :: 48 :: 49 :: 50 :: 51 :: 52 :: 53 :: 54 :: 55 :: 56 :: 57 :: 58 :: 59 :: 60 :: 61 :: []) 65 rfl rfl rfl rfl rfl rfl rfl rfl rfl hk1 hFc hP1 hD1
  clear hk1 hPc hDc hFc hP1 hD1 ht
  refine la_2_2 l C0 hk9 hL9 hS hl (rfl) ?_
  obtain ⟨hPc, hDc, hFc⟩ := zc_sub (wc := [_]) hP hD hS hA [28] rfl rfl
  refine zcall (st1 := [.int 0, .int 0]) (va_runV (As := [.int (xs (6 * k9 + 1))]) (rest := [.int 0]) ⟨hx, hb, hml, hown, hts⟩ (k_M_tear_x l dC dI cI cZ cF H.size k0 a (upd I0 26 (nI ln)) J0 ft (xs (6 * k9 + 1)) (hm0) (h200f) (hbad)) (csV_234 hts rfl rfl ⟨Nat.le_of_ble_eq_true rfl, Nat.le_of_ble_eq_true rfl⟩) (zPV2 (q0 := 0) (ci := 9) hPc hDc hK3 hXN rfl rfl) rfl rfl hl.1 rfl (lv_room (Nat.le_of_ble_eq_true rfl)) dL_law_275 ⟨show 1000 + 1010 * k9 + cp + 4 * cl ≤ 600000 by omega, show 45000 + 8192 * cp + 512 * cl + U ≤ 7302250 by omega⟩) hS hFc hFc rfl (fun t H locs ht hB hk1 hS => ?_)
  obtain ⟨hP1, hD1⟩ := hB
  rw [ht] at hP1
  obtain ⟨hP, hD⟩ := zkQ (W2 := (_ :: _ :: _ :: _ :: _ :: _ :: _ :: _ :: _ :: _ :: _ :: _ :: _ :: _ :: _ :: _ :: _ :: _ :: _ :: _ :: _ :: _ :: _ :: _ :: _ :: _ :: _ :: _ :: (om k0 a (upd (upd (upd I0 14 1) 15 (I0 15)) 26 (nI ln)) J0) :: _ :: _ :: _ :: _ :: _ :: _ :: _ :: _ :: _ :: _ :: _ :: _ :: _ :: _ :: _ :: _ :: _ :: _ :: _ :: _ :: _ :: _ :: _ :: _ :: _ :: _ :: _ :: _ :: _ :: _ :: _ :: _ :: _ :: _ :: _ :: _ :: [])) hP hD [28] (0 :: 1 :: 2 :: 3 :: 4 :: 5 :: 6 :: 7 :: 8 :: 9 :: 10 :: 11 :: 12 :: 13 :: 14 :: 15 :: 16 :: 17 :: 18 :: 19 :: 20 :: 21 :: 22 :: 23 :: 24 :: 25 :: 26 :: 27 :: 29 :: 30 :: 31 :: 32 :: 33 :: 34 :: 35 :: 36 :: 37 :: 38 :: 39 :: 40 :: 41 :: 42 :: 43 :: 44 :: 45 :: 46 :: 47 :: 48 :: 49 :: 50 :: 51 :: 52 :: 53 :: 54 :: 55 :: 56 :: 57 :: 58 :: 59 :: 60 :: 61 :: 62 :: 63 :: 64 :: []) (0 :: 1 :: 2 :: 3 :: 4 :: 5 :: 6 :: 7 :: 8 :: 9 :: 10 :: 11 :: 12 :: 13 :: 14 :: 15 :: 16 :: 17 :: 18 :: 19 :: 20 :: 21 :: 22 :: 23 :: 24 :: 25 :: 26 :: 27 :: 29 :: 30 :: 31 :: 32 :: 33 :: 34 :: 35 :: 36 :: 37 :: 38 :: 39 :: 40 :: 41 :: 42 :: 43 :: 44 :: 45 :: 46 :: 47 :: 48 :: 49 :: 50 :: 51 :: 52 :: 53 :: 54 :: 55 :: 56 :: 57 :: 58 :: 59 :: 60 :: 61 :: 62 :: 63 :: 64 :: []) [28] (0 :: 1 :: 2 :: 3 :: 4 :: 5 :: 6 :: 7 :: 8 :: 9 :: 10 :: 11 :: 12 :: 13 :: 14 :: 15 :: 16 :: 17 :: 18 :: 19 :: 20 :: 21 :: 22 :: 23 :: 24 :: 25 :: 26 :: 27 :: 64 :: 28 :: 29 :: 30 :: 31 :: 32 :: 33 :: 34 :: 35 :: 36 :: 37 :: 38 :: 39 :: 40 :: 41 :: 42 :: 43 :: 44 :: 45 :: 46 :: 47 :: 48 :: 49 :: 50 :: 51 :: 52 :: 53 :: 54 :: 55 :: 56 :: 57 :: 58 :: 59 :: 60 :: 61 :: 62 :: 63 :: []) 65 rfl rfl rfl rfl rfl rfl rfl rfl rfl hk1 hFc hP1 hD1
  clear hk1 hPc hDc hFc hP1 hD1 ht
  refine lv_icmp_eq (tgt := 1081) hx hb dL_law_278 rfl (fun _ => ?_) (fun c_3 => absurd (rfl) c_3)
  obtain ⟨hP9, hD9⟩ := zq_part (cx := (_ :: _ :: _ :: _ :: _ :: _ :: _ :: _ :: _ :: _ :: _ :: _ :: _ :: _ :: _ :: _ :: _ :: _ :: _ :: _ :: _ :: _ :: _ :: _ :: _ :: _ :: _ :: _ :: _ :: _ :: _ :: _ :: _ :: _ :: _ :: _ :: _ :: _ :: _ :: _ :: _ :: _ :: _ :: _ :: _ :: _ :: _ :: _ :: _ :: _ :: _ :: _ :: _ :: _ :: _ :: _ :: _ :: _ :: _ :: _ :: _ :: _ :: _ :: _ :: _ :: [])) hP hD (0 :: 1 :: 2 :: 3 :: 4 :: 5 :: 6 :: 7 :: 8 :: 9 :: 10 :: 11 :: 12 :: 13 :: 14 :: 15 :: 16 :: 17 :: 18 :: 19 :: 20 :: 21 :: 22 :: 23 :: 24 :: 25 :: 26 :: 27 :: 28 :: 29 :: 30 :: 31 :: 32 :: 33 :: 34 :: 35 :: 36 :: 37 :: 38 :: 39 :: 40 :: 41 :: 42 :: 43 :: 44 :: 45 :: 46 :: 47 :: 48 :: 49 :: 50 :: 51 :: 52 :: 53 :: 54 :: 55 :: 56 :: 57 :: 58 :: 59 :: 60 :: 61 :: 62 :: 63 :: 64 :: []) rfl rfl
  refine W.widen (k := 1000 + 1010 * (k9 + 1) + cp + 4 * cl) (n := 45000 + 8192 * cp + 512 * cl + U) (by omega) (by omega) ?_
  have e26 : upd (upd (upd (upd I0 14 1) 15 (I0 15)) 26 (nI ln)) 26 (nI ln) = (upd (upd (upd I0 14 1) 15 (I0 15)) 26 (nI ln)) := up_same rfl
  exact hnext cp cl U H locs ls (lawI_in L f FA ea nd nt nw q_1 q_2 mc9 rd rt rw P Q TX TY WX WY AR b1 b2 b3 b4 b5 b6 b7 b8 c1 c2 c3 c4 a1 a2 a3 a4 nv RA WT EX EY GR LV y1 y2 y3 y4 a (upd (upd (upd I0 14 1) 15 (I0 15)) 26 (nI ln)) J0 kd st gb it pa pb rk wd tw tn mn cx cy sa shs wh of9 we la lb lc ld P0 Q0 S0 ox oy mt wi ins T0 fl mk jx jy gr bs dn T ft Sn AD C ln FT cc W9 V VX VY (by rw [e26]; exact hP9) (by rw [e26]; exact hD9) (hB) (INV_K hI) ⟨hm0, hm19, hm20, hm21⟩ (by omega)) hS (lv_sub hl [0, 1, 2, 3] rfl)
set_option maxHeartbeats 4000000 in
set_option maxRecDepth 100000 in
theorem lc_done_x {p : Program} {e : Env} {s : State} {m : MethodId} {below : List Frame} {meth : Method} {c : Code} (l : Launch) {b L9 : Nat} {xs : Nat → Int32} (C0 : lw_At p s m meth c b L9 xs) (dC : Nat → ClassId) (dI : Nat → Nat → Nat) (cI cZ cF cO : ClassId) (e0 mi : Nat) (x sl sh fa lw dr dx dy tg tx ty wy wx wz br bo aa ro za zw zx zy zg bq bp dq dp lv k0 : Nat) (hK : va_K (dC, dI) classes (zTyO cI cZ cF cO) s) (hXL : zXL e0 mi (fun q : Nat => s.heap.size ≤ q) s) (L : List Nat) (f : Nat → va_E) (FA : Nat → Option Nat) (ea : Nat) (nd : Nat) (nt : Nat) (nw : Nat) (ul : Int32) (su : Int32) (mc9 : Int32) (rd : Int32) (rt : Int32) (rw : Int32) (P : Nat → Int32) (Q : Nat → Int32) (TX : Nat → Int32) (TY : Nat → Int32) (WX : Nat → Int32) (WY : Nat → Int32) (AR : Nat → Int32) (b1 : Int32) (b2 : Int32) (b3 : Int32) (b4 : Int32) (b5 : Int32) (b6 : Int32) (b7 : Int32) (b8 : Int32) (c1 : Int32) (c2 : Int32) (c3 : Int32) (c4 : Int32) (a1 : Int32) (a2 : Int32) (a3 : Int32) (a4 : Int32) (nv : Int32) (RA : Nat → Option Nat) (WT : Nat → Int32) (EX : Nat → Int32) (EY : Nat → Int32) (GR : Nat → Int32) (LV : Nat → Int32) (y1 : Int64) (y2 : Int64) (y3 : Int64) (y4 : Int64) (a : Nat → Nat) (I0 : Nat → Int32) (J0 : Nat → Int64) (kd : Nat → Int32) (st : Nat → Int32) (gb : Nat → Int32) (it : Nat → Int32) (pa : Nat → Int32) (pb : Nat → Int32) (rk : Nat → Int32) (wd : Nat → Int32) (tw : Nat → Int32) (tn : Nat → Int32) (mn : Nat → Int32) (cx : Nat → Int32) (cy : Nat → Int32) (sa : Nat → Int32) (shs : Nat → Int32) (wh : Nat → Int32) (of9 : Nat → Int32) (we : Nat → Int32) (la : Nat → Int32) (lb : Nat → Int32) (lc : Nat → Int32) (ld : Nat → Int32) (P0 : Nat → Int32) (Q0 : Nat → Int32) (S0 : Nat → Int32) (ox : Nat → Int32) (oy : Nat → Int32) (mt : Nat → Int32) (wi : Nat → Int32) (ins : Nat → Int32) (T0 : Nat → Int32) (fl : Nat → Int32) (mk : Nat → Int32) (jx : Nat → Int32) (jy : Nat → Int32) (gr : Nat → Int32) (bs : Nat) (dn : Nat) (T : Nat) (ft : Nat) (Sn : Nat) (AD : Nat) (C : Nat) (ln : Nat) (FT : Nat → Nat) (cc : Nat → Nat) (W9 : Nat → Nat) (V : Nat → Nat → Nat → Int32) (VX : Nat → Nat → Int32) (VY : Nat → Nat → Int32) (cp cl U k9 : Nat) (hk9 : 6 * k9 + 6 ≤ L9) (hL9 : L9 ≤ 3072) {H : Heap} {locs : List Loc} {ls : Array Slot} (hPD : zPD (dC, dI) classes (fun q : Nat => s.heap.size ≤ q) (((oc8 x (.ref sh) (.ref lw) (.ref ro) (.ref bq) (.ref bp) (.ref dq) (.ref dp) (.ref lv) (.ref sl) (nI dn) (nI bs) ul su) :: (oc10 sl mc9 (.ref ea) (nI T)) :: (oc7 sh (.ref fa) (nI ft)) :: (oq fa cF 200 FA) :: (oc3 lw (.ref dr) (.ref tg) (.ref wy) (.ref br) (.ref bo) (.ref aa)) :: (oc6 dr (.ref dx) (.ref dy) (nI nd) rd) :: (oa dx cI 40 P) :: (oa dy cI 40 Q) :: (oc6 tg (.ref tx) (.ref ty) (nI nt) rt) :: (oa tx cI 3 TX) :: (oa ty cI 3 TY) :: (oc6 wy (.ref wx) (.ref wz) (nI nw) rw) :: (oa wx cI 2 WX) :: (oa wz cI 2 WY) :: (oc0 br b1 b2 b3 b4) :: (oc0 bo b5 b6 b7 b8) :: (oa aa cI 40 AR) :: (oc5 ro (.ref za) (.ref zw) (.ref zx) (.ref zy) (.ref zg) nv) :: (oq za cF 200 RA) :: (oa zw cI 200 WT) :: (oa zx cI 400 EX) :: (oa zy cI 400 EY) :: (oa zg cI 400 GR) :: (oc0 bq c1 c2 c3 c4) :: (oc0 bp a1 a2 a3 a4) :: (oc2 dq y1 y2) :: (oc2 dp y3 y4) :: (oa lv cZ 200 LV) :: (om k0 a (upd I0 26 (nI ln)) J0) :: (oa (a 1) cI 201 kd) :: (oa (a 5) cI 201 st) :: (oa (a 7) cI 201 gb) :: (oa (a 10) cI 201 it) :: (oa (a 8) cI 201 pa) :: (oa (a 9) cI 201 pb) :: (oa (a 2) cI 201 rk) :: (oa (a 3) cI 201 wd) :: (oa (a 4) cI 201 tw) :: (oa (a 6) cZ 201 tn) :: (oa (a 11) cI 201 mn) :: (oa (a 12) cI 8040 cx) :: (oa (a 13) cI 8040 cy) :: (oa (a 27) cI 516 sa) :: (oa (a 28) cI (4096 * cp) shs) :: (oa (a 16) cI 514 wh) :: (oa (a 17) cI 514 of9) :: (oa (a 18) cI 514 we) :: (oa (a 22) cI (64 * cl) la) :: (oa (a 23) cI (64 * cl) lb) :: (oa (a 24) cI (64 * cl) lc) :: (oa (a 25) cI (64 * cl) ld) :: (oa (a 29) cI 42 P0) :: (oa (a 30) cI 42 Q0) :: (oa (a 32) cI 8 S0) :: (oa (a 33) cI 42 ox) :: (oa (a 34) cI 42 oy) :: (oa (a 37) cZ 201 mt) :: (oa (a 38) cZ 201 wi) :: (oa (a 39) cZ 8040 ins) :: (oa (a 40) cI 6 T0) :: (oa (a 43) cZ 40 fl) :: (oa (a 50) cZ 201 mk) :: (oa (a 51) cI 402 jx) :: (oa (a 52) cI 402 jy) :: (oa (a 53) cI 402 gr) :: []) ++ va_pl L f) H) (hS : va_S (fun q : Nat => s.heap.size ≤ q) s.heap H locs) (hl : lv_has ls 4 [(3, .int (nI (6 * k9))), (2, .ref k0), (1, .ref x), (0, .ref b)]) (hB : shB cI cO L f e0 FA ea bs dn T ft FT V VX VY tn rk wd tw pa pb wh of9 we kd st gb it mn cx cy) (hI : INV k9 Sn AD C cc W9 bs T ft cp ln cl FT V VX VY tn rk wd tw pa pb kd st it mn cx cy sa shs lb lc) (hM : I0 0 = nI ft ∧ I0 19 = nI dn ∧ I0 20 = nI (T - dn) ∧ I0 21 = nI bs) (hU : U ≤ Sn * (28 * (AD + C) + 1000) + 200 * (AD + C)) (hbad : ¬ (0 ≤ (xs (6 * k9 + 1)).toInt ∧ (xs (6 * k9 + 1)).toInt < ((ft : Nat) : Int))) (hnext : ∀ (cp1 cl1 U1 : Nat) (H : Heap) (locs : List Loc) (ls : Array Slot), lawI s dC dI cI cZ cF cO e0 mi x sl sh fa lw dr dx dy tg tx ty wy wx wz br bo aa ro za zw zx zy zg bq bp dq dp lv k0 (k9 + 1) cp1 cl1 U1 H → va_S (fun q : Nat => s.heap.size ≤ q) s.heap H locs → lv_has ls 4 [(3, .int (nI (6 * k9))), (2, .ref k0), (1, .ref x), (0, .ref b)] → W p l e room_1 s m #[Value.ref b] below meth c H locs (1000 + 1010 * (k9 + 1) + cp1 + 4 * cl1) (45000 + 8192 * cp1 + 512 * cl1 + U1) (lw_Z below #[Value.ref b] s) (F0 m 1081 ls [])) : W p l e room_1 s m #[Value.ref b] below meth c H locs (1000 + 1010 * k9 + cp + 4 * cl) (45000 + 8192 * cp + 512 * cl + U) (lw_Z below #[Value.ref b] s) (F0 m 283 ls []) := by
  obtain ⟨hP, hD⟩ := hPD
  obtain ⟨hx, hb, hr, hml, hown, hts1, hX, hbl, hlocks, hgv⟩ := id C0
  have hts : ∀ w9 ∈ ws0, w9.before #[Value.ref b] s = true := fun w9 h => hts1 w9 (List.mem_filter.mp h).1
  have hA : ∀ q : Nat, s.heap.size ≤ q → (fun q : Nat => s.heap.size ≤ q) q := fun _ h => h
  have hbA : ¬ (fun q : Nat => s.heap.size ≤ q) b := Nat.not_le.mpr hbl
  have hXN := hXL.1
  have hK3 := hK.sub [0, 1, 2] rfl
  obtain ⟨hm0, hm19, hm20, hm21⟩ := hM
  have hpo := shB_po hB
  have hK512 : k9 + 1 ≤ 512 := (by omega)
  have hwfS := hI.1.1
  have hbdC := hI.1.2.2.1
  have hT0 := hI.1.2.2.2
  have hd9 := hpo.1
  have h200t : ∀ t, bs ≤ t → t ≤ T → FT t ≤ 200 := fun t t1 t2 => Nat.le_trans (hpo.2.1 t T t1 t2 (Nat.le_refl _)) hd9.2.2.2.2
  have h200f : ft ≤ 200 := (by rw [hd9.2.2.2.1]; exact h200t dn hd9.1 hd9.2.1)
  have hrkA : ∀ q, lvF ft st tn q → 0 ≤ (rk q).toInt ∧ (rk q).toInt ≤ 9 := fun q hq => (hI.1.2.1 q (Nat.lt_of_lt_of_le hq.1 (by rw [hd9.2.2.2.1]; exact hpo.2.1 dn T hd9.1 hd9.2.1 (Nat.le_refl _)))).1
  have hwdA : ∀ q, q < ft → 0 ≤ (wd q).toInt ∧ (wd q).toInt ≤ 100 := fun q hq => (hI.1.2.1 q (Nat.lt_of_lt_of_le hq (by rw [hd9.2.2.2.1]; exact hpo.2.1 dn T hd9.1 hd9.2.1 (Nat.le_refl _)))).2
  have hcp5 := INV_cp hI (by omega)
  have hcp1 := hI.2.2.1.2.1
  have hcnt := hI.2.2.2.1
  have hlst := hI.2.2.2.2
  have hlb := mul_514 (a := Sn) (b := C) (by omega)
  have hftA := bdC_F hbdC
  have hrm := room_c (Sn := Sn) (AD := AD) (C := C) (c := cp) (cl := cl) (U := U) (by omega) hI.2.2.1.2.2.2.2.2 hlst.2.2.2.1 hU
  refine la_3_1 l C0 hk9 hL9 hS hl (rfl) ?_
  obtain ⟨hPc, hDc, hFc⟩ := zc_sub (wc := [_, _, _]) hP hD hS hA [0, 2, 3] rfl rfl
  refine zcall (st1 := [.int 0]) (va_runV (As := [.int (xs (6 * k9 + 1))]) (rest := []) ⟨hx, hb, hml, hown, hts⟩ (k_done_x l dC dI cI cZ cF H.size x sh lw ro bq bp dq dp lv sl (nI bs) ul su (nI dn) fa ft FA (xs (6 * k9 + 1)) (h200f) (hbad)) (csV_235 hts rfl rfl ⟨Nat.le_of_ble_eq_true rfl, Nat.le_of_ble_eq_true rfl⟩) (zPV2 (q0 := 0) (ci := 8) hPc hDc hK3 hXN rfl rfl) rfl rfl hl.1 rfl (lv_room (Nat.le_of_ble_eq_true rfl)) dL_law_289 ⟨show 1000 + 1010 * k9 + cp + 4 * cl ≤ 600000 by omega, show 45000 + 8192 * cp + 512 * cl + U ≤ 7302250 by omega⟩) hS hFc hFc rfl (fun t H locs ht hB hk1 hS => ?_)
  obtain ⟨q_1, q_2, hP1, hD1⟩ := hB
  rw [ht] at hP1
  obtain ⟨hP, hD⟩ := zkQ (W2 := ((oc8 x (.ref sh) (.ref lw) (.ref ro) (.ref bq) (.ref bp) (.ref dq) (.ref dp) (.ref lv) (.ref sl) (nI dn) (nI bs) q_1 q_2) :: _ :: _ :: _ :: _ :: _ :: _ :: _ :: _ :: _ :: _ :: _ :: _ :: _ :: _ :: _ :: _ :: _ :: _ :: _ :: _ :: _ :: _ :: _ :: _ :: _ :: _ :: _ :: _ :: _ :: _ :: _ :: _ :: _ :: _ :: _ :: _ :: _ :: _ :: _ :: _ :: _ :: _ :: _ :: _ :: _ :: _ :: _ :: _ :: _ :: _ :: _ :: _ :: _ :: _ :: _ :: _ :: _ :: _ :: _ :: _ :: _ :: _ :: _ :: _ :: [])) hP hD [0, 2, 3] (1 :: 4 :: 5 :: 6 :: 7 :: 8 :: 9 :: 10 :: 11 :: 12 :: 13 :: 14 :: 15 :: 16 :: 17 :: 18 :: 19 :: 20 :: 21 :: 22 :: 23 :: 24 :: 25 :: 26 :: 27 :: 28 :: 29 :: 30 :: 31 :: 32 :: 33 :: 34 :: 35 :: 36 :: 37 :: 38 :: 39 :: 40 :: 41 :: 42 :: 43 :: 44 :: 45 :: 46 :: 47 :: 48 :: 49 :: 50 :: 51 :: 52 :: 53 :: 54 :: 55 :: 56 :: 57 :: 58 :: 59 :: 60 :: 61 :: 62 :: 63 :: 64 :: []) (1 :: 4 :: 5 :: 6 :: 7 :: 8 :: 9 :: 10 :: 11 :: 12 :: 13 :: 14 :: 15 :: 16 :: 17 :: 18 :: 19 :: 20 :: 21 :: 22 :: 23 :: 24 :: 25 :: 26 :: 27 :: 28 :: 29 :: 30 :: 31 :: 32 :: 33 :: 34 :: 35 :: 36 :: 37 :: 38 :: 39 :: 40 :: 41 :: 42 :: 43 :: 44 :: 45 :: 46 :: 47 :: 48 :: 49 :: 50 :: 51 :: 52 :: 53 :: 54 :: 55 :: 56 :: 57 :: 58 :: 59 :: 60 :: 61 :: 62 :: 63 :: 64 :: []) [0, 2, 3] (62 :: 0 :: 63 :: 64 :: 1 :: 2 :: 3 :: 4 :: 5 :: 6 :: 7 :: 8 :: 9 :: 10 :: 11 :: 12 :: 13 :: 14 :: 15 :: 16 :: 17 :: 18 :: 19 :: 20 :: 21 :: 22 :: 23 :: 24 :: 25 :: 26 :: 27 :: 28 :: 29 :: 30 :: 31 :: 32 :: 33 :: 34 :: 35 :: 36 :: 37 :: 38 :: 39 :: 40 :: 41 :: 42 :: 43 :: 44 :: 45 :: 46 :: 47 :: 48 :: 49 :: 50 :: 51 :: 52 :: 53 :: 54 :: 55 :: 56 :: 57 :: 58 :: 59 :: 60 :: 61 :: []) 65 rfl rfl rfl rfl rfl rfl rfl rfl rfl hk1 hFc hP1 hD1
  clear hk1 hPc hDc hFc hP1 hD1 ht
  refine lv_pop hx hb dL_law_292 rfl ?_
  refine la_3_2 l C0 hk9 hL9 hS hl (rfl) ?_
  obtain ⟨hPc, hDc, hFc⟩ := zc_sub (wc := [_]) hP hD hS hA [28] rfl rfl
  refine zcall (st1 := [.int 0]) (va_runV (As := [.int (xs (6 * k9 + 1))]) (rest := []) ⟨hx, hb, hml, hown, hts⟩ (k_M_done_x l dC dI cI cZ cF H.size k0 a (upd I0 26 (nI ln)) J0 ft (xs (6 * k9 + 1)) (hm0) (h200f) (hbad)) (csV_236 hts rfl rfl ⟨Nat.le_of_ble_eq_true rfl, Nat.le_of_ble_eq_true rfl⟩) (zPV2 (q0 := 0) (ci := 9) hPc hDc hK3 hXN rfl rfl) rfl rfl hl.1 rfl (lv_room (Nat.le_of_ble_eq_true rfl)) dL_law_299 ⟨show 1000 + 1010 * k9 + cp + 4 * cl ≤ 600000 by omega, show 45000 + 8192 * cp + 512 * cl + U ≤ 7302250 by omega⟩) hS hFc hFc rfl (fun t H locs ht hB hk1 hS => ?_)
  obtain ⟨hP1, hD1⟩ := hB
  rw [ht] at hP1
  obtain ⟨hP, hD⟩ := zkQ (W2 := (_ :: _ :: _ :: _ :: _ :: _ :: _ :: _ :: _ :: _ :: _ :: _ :: _ :: _ :: _ :: _ :: _ :: _ :: _ :: _ :: _ :: _ :: _ :: _ :: _ :: _ :: _ :: _ :: (om k0 a (upd (upd (upd I0 14 1) 15 (I0 15)) 26 (nI ln)) J0) :: _ :: _ :: _ :: _ :: _ :: _ :: _ :: _ :: _ :: _ :: _ :: _ :: _ :: _ :: _ :: _ :: _ :: _ :: _ :: _ :: _ :: _ :: _ :: _ :: _ :: _ :: _ :: _ :: _ :: _ :: _ :: _ :: _ :: _ :: _ :: _ :: [])) hP hD [28] (0 :: 1 :: 2 :: 3 :: 4 :: 5 :: 6 :: 7 :: 8 :: 9 :: 10 :: 11 :: 12 :: 13 :: 14 :: 15 :: 16 :: 17 :: 18 :: 19 :: 20 :: 21 :: 22 :: 23 :: 24 :: 25 :: 26 :: 27 :: 29 :: 30 :: 31 :: 32 :: 33 :: 34 :: 35 :: 36 :: 37 :: 38 :: 39 :: 40 :: 41 :: 42 :: 43 :: 44 :: 45 :: 46 :: 47 :: 48 :: 49 :: 50 :: 51 :: 52 :: 53 :: 54 :: 55 :: 56 :: 57 :: 58 :: 59 :: 60 :: 61 :: 62 :: 63 :: 64 :: []) (0 :: 1 :: 2 :: 3 :: 4 :: 5 :: 6 :: 7 :: 8 :: 9 :: 10 :: 11 :: 12 :: 13 :: 14 :: 15 :: 16 :: 17 :: 18 :: 19 :: 20 :: 21 :: 22 :: 23 :: 24 :: 25 :: 26 :: 27 :: 29 :: 30 :: 31 :: 32 :: 33 :: 34 :: 35 :: 36 :: 37 :: 38 :: 39 :: 40 :: 41 :: 42 :: 43 :: 44 :: 45 :: 46 :: 47 :: 48 :: 49 :: 50 :: 51 :: 52 :: 53 :: 54 :: 55 :: 56 :: 57 :: 58 :: 59 :: 60 :: 61 :: 62 :: 63 :: 64 :: []) [28] (0 :: 1 :: 2 :: 3 :: 4 :: 5 :: 6 :: 7 :: 8 :: 9 :: 10 :: 11 :: 12 :: 13 :: 14 :: 15 :: 16 :: 17 :: 18 :: 19 :: 20 :: 21 :: 22 :: 23 :: 24 :: 25 :: 26 :: 27 :: 64 :: 28 :: 29 :: 30 :: 31 :: 32 :: 33 :: 34 :: 35 :: 36 :: 37 :: 38 :: 39 :: 40 :: 41 :: 42 :: 43 :: 44 :: 45 :: 46 :: 47 :: 48 :: 49 :: 50 :: 51 :: 52 :: 53 :: 54 :: 55 :: 56 :: 57 :: 58 :: 59 :: 60 :: 61 :: 62 :: 63 :: []) 65 rfl rfl rfl rfl rfl rfl rfl rfl rfl hk1 hFc hP1 hD1
  clear hk1 hPc hDc hFc hP1 hD1 ht
  refine lv_pop hx hb dL_law_302 rfl ?_
  refine lv_goto (tgt := 1081) hx hb dL_law_303 rfl ?_
  obtain ⟨hP9, hD9⟩ := zq_part (cx := (_ :: _ :: _ :: _ :: _ :: _ :: _ :: _ :: _ :: _ :: _ :: _ :: _ :: _ :: _ :: _ :: _ :: _ :: _ :: _ :: _ :: _ :: _ :: _ :: _ :: _ :: _ :: _ :: _ :: _ :: _ :: _ :: _ :: _ :: _ :: _ :: _ :: _ :: _ :: _ :: _ :: _ :: _ :: _ :: _ :: _ :: _ :: _ :: _ :: _ :: _ :: _ :: _ :: _ :: _ :: _ :: _ :: _ :: _ :: _ :: _ :: _ :: _ :: _ :: _ :: [])) hP hD (0 :: 1 :: 2 :: 3 :: 4 :: 5 :: 6 :: 7 :: 8 :: 9 :: 10 :: 11 :: 12 :: 13 :: 14 :: 15 :: 16 :: 17 :: 18 :: 19 :: 20 :: 21 :: 22 :: 23 :: 24 :: 25 :: 26 :: 27 :: 28 :: 29 :: 30 :: 31 :: 32 :: 33 :: 34 :: 35 :: 36 :: 37 :: 38 :: 39 :: 40 :: 41 :: 42 :: 43 :: 44 :: 45 :: 46 :: 47 :: 48 :: 49 :: 50 :: 51 :: 52 :: 53 :: 54 :: 55 :: 56 :: 57 :: 58 :: 59 :: 60 :: 61 :: 62 :: 63 :: 64 :: []) rfl rfl
  refine W.widen (k := 1000 + 1010 * (k9 + 1) + cp + 4 * cl) (n := 45000 + 8192 * cp + 512 * cl + U) (by omega) (by omega) ?_
  have e26 : upd (upd (upd (upd I0 14 1) 15 (I0 15)) 26 (nI ln)) 26 (nI ln) = (upd (upd (upd I0 14 1) 15 (I0 15)) 26 (nI ln)) := up_same rfl
  exact hnext cp cl U H locs ls (lawI_in L f FA ea nd nt nw q_1 q_2 mc9 rd rt rw P Q TX TY WX WY AR b1 b2 b3 b4 b5 b6 b7 b8 c1 c2 c3 c4 a1 a2 a3 a4 nv RA WT EX EY GR LV y1 y2 y3 y4 a (upd (upd (upd I0 14 1) 15 (I0 15)) 26 (nI ln)) J0 kd st gb it pa pb rk wd tw tn mn cx cy sa shs wh of9 we la lb lc ld P0 Q0 S0 ox oy mt wi ins T0 fl mk jx jy gr bs dn T ft Sn AD C ln FT cc W9 V VX VY (by rw [e26]; exact hP9) (by rw [e26]; exact hD9) (hB) (INV_K hI) ⟨hm0, hm19, hm20, hm21⟩ (by omega)) hS (lv_sub hl [0, 1, 2, 3] rfl)
set_option maxHeartbeats 4000000 in
set_option maxRecDepth 100000 in
theorem lc_plainer_x {p : Program} {e : Env} {s : State} {m : MethodId} {below : List Frame} {meth : Method} {c : Code} (l : Launch) {b L9 : Nat} {xs : Nat → Int32} (C0 : lw_At p s m meth c b L9 xs) (dC : Nat → ClassId) (dI : Nat → Nat → Nat) (cI cZ cF cO : ClassId) (e0 mi : Nat) (x sl sh fa lw dr dx dy tg tx ty wy wx wz br bo aa ro za zw zx zy zg bq bp dq dp lv k0 : Nat) (hK : va_K (dC, dI) classes (zTyO cI cZ cF cO) s) (hXL : zXL e0 mi (fun q : Nat => s.heap.size ≤ q) s) (L : List Nat) (f : Nat → va_E) (FA : Nat → Option Nat) (ea : Nat) (nd : Nat) (nt : Nat) (nw : Nat) (ul : Int32) (su : Int32) (mc9 : Int32) (rd : Int32) (rt : Int32) (rw : Int32) (P : Nat → Int32) (Q : Nat → Int32) (TX : Nat → Int32) (TY : Nat → Int32) (WX : Nat → Int32) (WY : Nat → Int32) (AR : Nat → Int32) (b1 : Int32) (b2 : Int32) (b3 : Int32) (b4 : Int32) (b5 : Int32) (b6 : Int32) (b7 : Int32) (b8 : Int32) (c1 : Int32) (c2 : Int32) (c3 : Int32) (c4 : Int32) (a1 : Int32) (a2 : Int32) (a3 : Int32) (a4 : Int32) (nv : Int32) (RA : Nat → Option Nat) (WT : Nat → Int32) (EX : Nat → Int32) (EY : Nat → Int32) (GR : Nat → Int32) (LV : Nat → Int32) (y1 : Int64) (y2 : Int64) (y3 : Int64) (y4 : Int64) (a : Nat → Nat) (I0 : Nat → Int32) (J0 : Nat → Int64) (kd : Nat → Int32) (st : Nat → Int32) (gb : Nat → Int32) (it : Nat → Int32) (pa : Nat → Int32) (pb : Nat → Int32) (rk : Nat → Int32) (wd : Nat → Int32) (tw : Nat → Int32) (tn : Nat → Int32) (mn : Nat → Int32) (cx : Nat → Int32) (cy : Nat → Int32) (sa : Nat → Int32) (shs : Nat → Int32) (wh : Nat → Int32) (of9 : Nat → Int32) (we : Nat → Int32) (la : Nat → Int32) (lb : Nat → Int32) (lc : Nat → Int32) (ld : Nat → Int32) (P0 : Nat → Int32) (Q0 : Nat → Int32) (S0 : Nat → Int32) (ox : Nat → Int32) (oy : Nat → Int32) (mt : Nat → Int32) (wi : Nat → Int32) (ins : Nat → Int32) (T0 : Nat → Int32) (fl : Nat → Int32) (mk : Nat → Int32) (jx : Nat → Int32) (jy : Nat → Int32) (gr : Nat → Int32) (bs : Nat) (dn : Nat) (T : Nat) (ft : Nat) (Sn : Nat) (AD : Nat) (C : Nat) (ln : Nat) (FT : Nat → Nat) (cc : Nat → Nat) (W9 : Nat → Nat) (V : Nat → Nat → Nat → Int32) (VX : Nat → Nat → Int32) (VY : Nat → Nat → Int32) (cp cl U k9 : Nat) (hk9 : 6 * k9 + 6 ≤ L9) (hL9 : L9 ≤ 3072) {H : Heap} {locs : List Loc} {ls : Array Slot} (hPD : zPD (dC, dI) classes (fun q : Nat => s.heap.size ≤ q) (((oc8 x (.ref sh) (.ref lw) (.ref ro) (.ref bq) (.ref bp) (.ref dq) (.ref dp) (.ref lv) (.ref sl) (nI dn) (nI bs) ul su) :: (oc10 sl mc9 (.ref ea) (nI T)) :: (oc7 sh (.ref fa) (nI ft)) :: (oq fa cF 200 FA) :: (oc3 lw (.ref dr) (.ref tg) (.ref wy) (.ref br) (.ref bo) (.ref aa)) :: (oc6 dr (.ref dx) (.ref dy) (nI nd) rd) :: (oa dx cI 40 P) :: (oa dy cI 40 Q) :: (oc6 tg (.ref tx) (.ref ty) (nI nt) rt) :: (oa tx cI 3 TX) :: (oa ty cI 3 TY) :: (oc6 wy (.ref wx) (.ref wz) (nI nw) rw) :: (oa wx cI 2 WX) :: (oa wz cI 2 WY) :: (oc0 br b1 b2 b3 b4) :: (oc0 bo b5 b6 b7 b8) :: (oa aa cI 40 AR) :: (oc5 ro (.ref za) (.ref zw) (.ref zx) (.ref zy) (.ref zg) nv) :: (oq za cF 200 RA) :: (oa zw cI 200 WT) :: (oa zx cI 400 EX) :: (oa zy cI 400 EY) :: (oa zg cI 400 GR) :: (oc0 bq c1 c2 c3 c4) :: (oc0 bp a1 a2 a3 a4) :: (oc2 dq y1 y2) :: (oc2 dp y3 y4) :: (oa lv cZ 200 LV) :: (om k0 a (upd I0 26 (nI ln)) J0) :: (oa (a 1) cI 201 kd) :: (oa (a 5) cI 201 st) :: (oa (a 7) cI 201 gb) :: (oa (a 10) cI 201 it) :: (oa (a 8) cI 201 pa) :: (oa (a 9) cI 201 pb) :: (oa (a 2) cI 201 rk) :: (oa (a 3) cI 201 wd) :: (oa (a 4) cI 201 tw) :: (oa (a 6) cZ 201 tn) :: (oa (a 11) cI 201 mn) :: (oa (a 12) cI 8040 cx) :: (oa (a 13) cI 8040 cy) :: (oa (a 27) cI 516 sa) :: (oa (a 28) cI (4096 * cp) shs) :: (oa (a 16) cI 514 wh) :: (oa (a 17) cI 514 of9) :: (oa (a 18) cI 514 we) :: (oa (a 22) cI (64 * cl) la) :: (oa (a 23) cI (64 * cl) lb) :: (oa (a 24) cI (64 * cl) lc) :: (oa (a 25) cI (64 * cl) ld) :: (oa (a 29) cI 42 P0) :: (oa (a 30) cI 42 Q0) :: (oa (a 32) cI 8 S0) :: (oa (a 33) cI 42 ox) :: (oa (a 34) cI 42 oy) :: (oa (a 37) cZ 201 mt) :: (oa (a 38) cZ 201 wi) :: (oa (a 39) cZ 8040 ins) :: (oa (a 40) cI 6 T0) :: (oa (a 43) cZ 40 fl) :: (oa (a 50) cZ 201 mk) :: (oa (a 51) cI 402 jx) :: (oa (a 52) cI 402 jy) :: (oa (a 53) cI 402 gr) :: []) ++ va_pl L f) H) (hS : va_S (fun q : Nat => s.heap.size ≤ q) s.heap H locs) (hl : lv_has ls 4 [(3, .int (nI (6 * k9))), (2, .ref k0), (1, .ref x), (0, .ref b)]) (hB : shB cI cO L f e0 FA ea bs dn T ft FT V VX VY tn rk wd tw pa pb wh of9 we kd st gb it mn cx cy) (hI : INV k9 Sn AD C cc W9 bs T ft cp ln cl FT V VX VY tn rk wd tw pa pb kd st it mn cx cy sa shs lb lc) (hM : I0 0 = nI ft ∧ I0 19 = nI dn ∧ I0 20 = nI (T - dn) ∧ I0 21 = nI bs) (hU : U ≤ Sn * (28 * (AD + C) + 1000) + 200 * (AD + C)) (hbad : ¬ (0 ≤ (xs (6 * k9 + 1)).toInt ∧ (xs (6 * k9 + 1)).toInt < ((ft : Nat) : Int))) (hnext : ∀ (cp1 cl1 U1 : Nat) (H : Heap) (locs : List Loc) (ls : Array Slot), lawI s dC dI cI cZ cF cO e0 mi x sl sh fa lw dr dx dy tg tx ty wy wx wz br bo aa ro za zw zx zy zg bq bp dq dp lv k0 (k9 + 1) cp1 cl1 U1 H → va_S (fun q : Nat => s.heap.size ≤ q) s.heap H locs → lv_has ls 4 [(3, .int (nI (6 * k9))), (2, .ref k0), (1, .ref x), (0, .ref b)] → W p l e room_1 s m #[Value.ref b] below meth c H locs (1000 + 1010 * (k9 + 1) + cp1 + 4 * cl1) (45000 + 8192 * cp1 + 512 * cl1 + U1) (lw_Z below #[Value.ref b] s) (F0 m 1081 ls [])) : W p l e room_1 s m #[Value.ref b] below meth c H locs (1000 + 1010 * k9 + cp + 4 * cl) (45000 + 8192 * cp + 512 * cl + U) (lw_Z below #[Value.ref b] s) (F0 m 306 ls []) := by
  obtain ⟨hP, hD⟩ := hPD
  obtain ⟨hx, hb, hr, hml, hown, hts1, hX, hbl, hlocks, hgv⟩ := id C0
  have hts : ∀ w9 ∈ ws0, w9.before #[Value.ref b] s = true := fun w9 h => hts1 w9 (List.mem_filter.mp h).1
  have hA : ∀ q : Nat, s.heap.size ≤ q → (fun q : Nat => s.heap.size ≤ q) q := fun _ h => h
  have hbA : ¬ (fun q : Nat => s.heap.size ≤ q) b := Nat.not_le.mpr hbl
  have hXN := hXL.1
  have hK3 := hK.sub [0, 1, 2] rfl
  obtain ⟨hm0, hm19, hm20, hm21⟩ := hM
  have hpo := shB_po hB
  have hK512 : k9 + 1 ≤ 512 := (by omega)
  have hwfS := hI.1.1
  have hbdC := hI.1.2.2.1
  have hT0 := hI.1.2.2.2
  have hd9 := hpo.1
  have h200t : ∀ t, bs ≤ t → t ≤ T → FT t ≤ 200 := fun t t1 t2 => Nat.le_trans (hpo.2.1 t T t1 t2 (Nat.le_refl _)) hd9.2.2.2.2
  have h200f : ft ≤ 200 := (by rw [hd9.2.2.2.1]; exact h200t dn hd9.1 hd9.2.1)
  have hrkA : ∀ q, lvF ft st tn q → 0 ≤ (rk q).toInt ∧ (rk q).toInt ≤ 9 := fun q hq => (hI.1.2.1 q (Nat.lt_of_lt_of_le hq.1 (by rw [hd9.2.2.2.1]; exact hpo.2.1 dn T hd9.1 hd9.2.1 (Nat.le_refl _)))).1
  have hwdA : ∀ q, q < ft → 0 ≤ (wd q).toInt ∧ (wd q).toInt ≤ 100 := fun q hq => (hI.1.2.1 q (Nat.lt_of_lt_of_le hq (by rw [hd9.2.2.2.1]; exact hpo.2.1 dn T hd9.1 hd9.2.1 (Nat.le_refl _)))).2
  have hcp5 := INV_cp hI (by omega)
  have hcp1 := hI.2.2.1.2.1
  have hcnt := hI.2.2.2.1
  have hlst := hI.2.2.2.2
  have hlb := mul_514 (a := Sn) (b := C) (by omega)
  have hftA := bdC_F hbdC
  have hrm := room_c (Sn := Sn) (AD := AD) (C := C) (c := cp) (cl := cl) (U := U) (by omega) hI.2.2.1.2.2.2.2.2 hlst.2.2.2.1 hU
  refine la_4_1 l C0 hk9 hL9 hS hl (rfl) (rfl) ?_
  obtain ⟨hPc, hDc, hFc⟩ := zc_sub (wc := [_, _, _]) hP hD hS hA [0, 2, 3] rfl rfl
  refine zcall (st1 := [.int (-1)]) (va_runV (As := [.int (xs (6 * k9 + 1)), .int (xs (6 * k9 + 2))]) (rest := []) ⟨hx, hb, hml, hown, hts⟩ (k_plainer_x l dC dI cI cZ cF H.size x sh lw ro bq bp dq dp lv sl (nI bs) ul su (nI dn) fa ft FA (xs (6 * k9 + 1)) (xs (6 * k9 + 2)) (h200f) (hbad)) (csV_237 hts rfl rfl ⟨Nat.le_of_ble_eq_true rfl, Nat.le_of_ble_eq_true rfl⟩) (zPV2 (q0 := 0) (ci := 8) hPc hDc hK3 hXN rfl rfl) rfl rfl hl.1 rfl (lv_room (Nat.le_of_ble_eq_true rfl)) dL_law_317 ⟨show 1000 + 1010 * k9 + cp + 4 * cl ≤ 600000 by omega, show 45000 + 8192 * cp + 512 * cl + U ≤ 7302250 by omega⟩) hS hFc hFc rfl (fun t H locs ht hB hk1 hS => ?_)
  obtain ⟨q_1, q_2, hP1, hD1⟩ := hB
  rw [ht] at hP1
  obtain ⟨hP, hD⟩ := zkQ (W2 := ((oc8 x (.ref sh) (.ref lw) (.ref ro) (.ref bq) (.ref bp) (.ref dq) (.ref dp) (.ref lv) (.ref sl) (nI dn) (nI bs) q_1 q_2) :: _ :: _ :: _ :: _ :: _ :: _ :: _ :: _ :: _ :: _ :: _ :: _ :: _ :: _ :: _ :: _ :: _ :: _ :: _ :: _ :: _ :: _ :: _ :: _ :: _ :: _ :: _ :: _ :: _ :: _ :: _ :: _ :: _ :: _ :: _ :: _ :: _ :: _ :: _ :: _ :: _ :: _ :: _ :: _ :: _ :: _ :: _ :: _ :: _ :: _ :: _ :: _ :: _ :: _ :: _ :: _ :: _ :: _ :: _ :: _ :: _ :: _ :: _ :: _ :: [])) hP hD [0, 2, 3] (1 :: 4 :: 5 :: 6 :: 7 :: 8 :: 9 :: 10 :: 11 :: 12 :: 13 :: 14 :: 15 :: 16 :: 17 :: 18 :: 19 :: 20 :: 21 :: 22 :: 23 :: 24 :: 25 :: 26 :: 27 :: 28 :: 29 :: 30 :: 31 :: 32 :: 33 :: 34 :: 35 :: 36 :: 37 :: 38 :: 39 :: 40 :: 41 :: 42 :: 43 :: 44 :: 45 :: 46 :: 47 :: 48 :: 49 :: 50 :: 51 :: 52 :: 53 :: 54 :: 55 :: 56 :: 57 :: 58 :: 59 :: 60 :: 61 :: 62 :: 63 :: 64 :: []) (1 :: 4 :: 5 :: 6 :: 7 :: 8 :: 9 :: 10 :: 11 :: 12 :: 13 :: 14 :: 15 :: 16 :: 17 :: 18 :: 19 :: 20 :: 21 :: 22 :: 23 :: 24 :: 25 :: 26 :: 27 :: 28 :: 29 :: 30 :: 31 :: 32 :: 33 :: 34 :: 35 :: 36 :: 37 :: 38 :: 39 :: 40 :: 41 :: 42 :: 43 :: 44 :: 45 :: 46 :: 47 :: 48 :: 49 :: 50 :: 51 :: 52 :: 53 :: 54 :: 55 :: 56 :: 57 :: 58 :: 59 :: 60 :: 61 :: 62 :: 63 :: 64 :: []) [0, 2, 3] (62 :: 0 :: 63 :: 64 :: 1 :: 2 :: 3 :: 4 :: 5 :: 6 :: 7 :: 8 :: 9 :: 10 :: 11 :: 12 :: 13 :: 14 :: 15 :: 16 :: 17 :: 18 :: 19 :: 20 :: 21 :: 22 :: 23 :: 24 :: 25 :: 26 :: 27 :: 28 :: 29 :: 30 :: 31 :: 32 :: 33 :: 34 :: 35 :: 36 :: 37 :: 38 :: 39 :: 40 :: 41 :: 42 :: 43 :: 44 :: 45 :: 46 :: 47 :: 48 :: 49 :: 50 :: 51 :: 52 :: 53 :: 54 :: 55 :: 56 :: 57 :: 58 :: 59 :: 60 :: 61 :: []) 65 rfl rfl rfl rfl rfl rfl rfl rfl rfl hk1 hFc hP1 hD1
  clear hk1 hPc hDc hFc hP1 hD1 ht
  refine lv_pop hx hb dL_law_320 rfl ?_
  refine la_4_2 l C0 hk9 hL9 hS hl (rfl) (rfl) ?_
  obtain ⟨hPc, hDc, hFc⟩ := zc_sub (wc := [_]) hP hD hS hA [28] rfl rfl
  refine zcall (st1 := [.int (-1)]) (va_runV (As := [.int (xs (6 * k9 + 1)), .int (xs (6 * k9 + 2))]) (rest := []) ⟨hx, hb, hml, hown, hts⟩ (k_M_plainer_x l dC dI cI cZ cF H.size k0 a (upd I0 26 (nI ln)) J0 ft (xs (6 * k9 + 1)) (xs (6 * k9 + 2)) (hm0) (h200f) (hbad)) (csV_238 hts rfl rfl ⟨Nat.le_of_ble_eq_true rfl, Nat.le_of_ble_eq_true rfl⟩) (zPV2 (q0 := 0) (ci := 9) hPc hDc hK3 hXN rfl rfl) rfl rfl hl.1 rfl (lv_room (Nat.le_of_ble_eq_true rfl)) dL_law_332 ⟨show 1000 + 1010 * k9 + cp + 4 * cl ≤ 600000 by omega, show 45000 + 8192 * cp + 512 * cl + U ≤ 7302250 by omega⟩) hS hFc hFc rfl (fun t H locs ht hB hk1 hS => ?_)
  obtain ⟨hP1, hD1⟩ := hB
  rw [ht] at hP1
  obtain ⟨hP, hD⟩ := zkQ (W2 := (_ :: _ :: _ :: _ :: _ :: _ :: _ :: _ :: _ :: _ :: _ :: _ :: _ :: _ :: _ :: _ :: _ :: _ :: _ :: _ :: _ :: _ :: _ :: _ :: _ :: _ :: _ :: _ :: (om k0 a (upd (upd (upd I0 14 1) 15 (I0 15)) 26 (nI ln)) J0) :: _ :: _ :: _ :: _ :: _ :: _ :: _ :: _ :: _ :: _ :: _ :: _ :: _ :: _ :: _ :: _ :: _ :: _ :: _ :: _ :: _ :: _ :: _ :: _ :: _ :: _ :: _ :: _ :: _ :: _ :: _ :: _ :: _ :: _ :: _ :: _ :: [])) hP hD [28] (0 :: 1 :: 2 :: 3 :: 4 :: 5 :: 6 :: 7 :: 8 :: 9 :: 10 :: 11 :: 12 :: 13 :: 14 :: 15 :: 16 :: 17 :: 18 :: 19 :: 20 :: 21 :: 22 :: 23 :: 24 :: 25 :: 26 :: 27 :: 29 :: 30 :: 31 :: 32 :: 33 :: 34 :: 35 :: 36 :: 37 :: 38 :: 39 :: 40 :: 41 :: 42 :: 43 :: 44 :: 45 :: 46 :: 47 :: 48 :: 49 :: 50 :: 51 :: 52 :: 53 :: 54 :: 55 :: 56 :: 57 :: 58 :: 59 :: 60 :: 61 :: 62 :: 63 :: 64 :: []) (0 :: 1 :: 2 :: 3 :: 4 :: 5 :: 6 :: 7 :: 8 :: 9 :: 10 :: 11 :: 12 :: 13 :: 14 :: 15 :: 16 :: 17 :: 18 :: 19 :: 20 :: 21 :: 22 :: 23 :: 24 :: 25 :: 26 :: 27 :: 29 :: 30 :: 31 :: 32 :: 33 :: 34 :: 35 :: 36 :: 37 :: 38 :: 39 :: 40 :: 41 :: 42 :: 43 :: 44 :: 45 :: 46 :: 47 :: 48 :: 49 :: 50 :: 51 :: 52 :: 53 :: 54 :: 55 :: 56 :: 57 :: 58 :: 59 :: 60 :: 61 :: 62 :: 63 :: 64 :: []) [28] (0 :: 1 :: 2 :: 3 :: 4 :: 5 :: 6 :: 7 :: 8 :: 9 :: 10 :: 11 :: 12 :: 13 :: 14 :: 15 :: 16 :: 17 :: 18 :: 19 :: 20 :: 21 :: 22 :: 23 :: 24 :: 25 :: 26 :: 27 :: 64 :: 28 :: 29 :: 30 :: 31 :: 32 :: 33 :: 34 :: 35 :: 36 :: 37 :: 38 :: 39 :: 40 :: 41 :: 42 :: 43 :: 44 :: 45 :: 46 :: 47 :: 48 :: 49 :: 50 :: 51 :: 52 :: 53 :: 54 :: 55 :: 56 :: 57 :: 58 :: 59 :: 60 :: 61 :: 62 :: 63 :: []) 65 rfl rfl rfl rfl rfl rfl rfl rfl rfl hk1 hFc hP1 hD1
  clear hk1 hPc hDc hFc hP1 hD1 ht
  refine lv_pop hx hb dL_law_335 rfl ?_
  refine lv_goto (tgt := 1081) hx hb dL_law_336 rfl ?_
  obtain ⟨hP9, hD9⟩ := zq_part (cx := (_ :: _ :: _ :: _ :: _ :: _ :: _ :: _ :: _ :: _ :: _ :: _ :: _ :: _ :: _ :: _ :: _ :: _ :: _ :: _ :: _ :: _ :: _ :: _ :: _ :: _ :: _ :: _ :: _ :: _ :: _ :: _ :: _ :: _ :: _ :: _ :: _ :: _ :: _ :: _ :: _ :: _ :: _ :: _ :: _ :: _ :: _ :: _ :: _ :: _ :: _ :: _ :: _ :: _ :: _ :: _ :: _ :: _ :: _ :: _ :: _ :: _ :: _ :: _ :: _ :: [])) hP hD (0 :: 1 :: 2 :: 3 :: 4 :: 5 :: 6 :: 7 :: 8 :: 9 :: 10 :: 11 :: 12 :: 13 :: 14 :: 15 :: 16 :: 17 :: 18 :: 19 :: 20 :: 21 :: 22 :: 23 :: 24 :: 25 :: 26 :: 27 :: 28 :: 29 :: 30 :: 31 :: 32 :: 33 :: 34 :: 35 :: 36 :: 37 :: 38 :: 39 :: 40 :: 41 :: 42 :: 43 :: 44 :: 45 :: 46 :: 47 :: 48 :: 49 :: 50 :: 51 :: 52 :: 53 :: 54 :: 55 :: 56 :: 57 :: 58 :: 59 :: 60 :: 61 :: 62 :: 63 :: 64 :: []) rfl rfl
  refine W.widen (k := 1000 + 1010 * (k9 + 1) + cp + 4 * cl) (n := 45000 + 8192 * cp + 512 * cl + U) (by omega) (by omega) ?_
  have e26 : upd (upd (upd (upd I0 14 1) 15 (I0 15)) 26 (nI ln)) 26 (nI ln) = (upd (upd (upd I0 14 1) 15 (I0 15)) 26 (nI ln)) := up_same rfl
  exact hnext cp cl U H locs ls (lawI_in L f FA ea nd nt nw q_1 q_2 mc9 rd rt rw P Q TX TY WX WY AR b1 b2 b3 b4 b5 b6 b7 b8 c1 c2 c3 c4 a1 a2 a3 a4 nv RA WT EX EY GR LV y1 y2 y3 y4 a (upd (upd (upd I0 14 1) 15 (I0 15)) 26 (nI ln)) J0 kd st gb it pa pb rk wd tw tn mn cx cy sa shs wh of9 we la lb lc ld P0 Q0 S0 ox oy mt wi ins T0 fl mk jx jy gr bs dn T ft Sn AD C ln FT cc W9 V VX VY (by rw [e26]; exact hP9) (by rw [e26]; exact hD9) (hB) (INV_K hI) ⟨hm0, hm19, hm20, hm21⟩ (by omega)) hS (lv_sub hl [0, 1, 2, 3] rfl)
set_option maxHeartbeats 4000000 in
set_option maxRecDepth 100000 in
theorem lc_smooth_x {p : Program} {e : Env} {s : State} {m : MethodId} {below : List Frame} {meth : Method} {c : Code} (l : Launch) {b L9 : Nat} {xs : Nat → Int32} (C0 : lw_At p s m meth c b L9 xs) (dC : Nat → ClassId) (dI : Nat → Nat → Nat) (cI cZ cF cO : ClassId) (e0 mi : Nat) (x sl sh fa lw dr dx dy tg tx ty wy wx wz br bo aa ro za zw zx zy zg bq bp dq dp lv k0 : Nat) (hK : va_K (dC, dI) classes (zTyO cI cZ cF cO) s) (hXL : zXL e0 mi (fun q : Nat => s.heap.size ≤ q) s) (L : List Nat) (f : Nat → va_E) (FA : Nat → Option Nat) (ea : Nat) (nd : Nat) (nt : Nat) (nw : Nat) (ul : Int32) (su : Int32) (mc9 : Int32) (rd : Int32) (rt : Int32) (rw : Int32) (P : Nat → Int32) (Q : Nat → Int32) (TX : Nat → Int32) (TY : Nat → Int32) (WX : Nat → Int32) (WY : Nat → Int32) (AR : Nat → Int32) (b1 : Int32) (b2 : Int32) (b3 : Int32) (b4 : Int32) (b5 : Int32) (b6 : Int32) (b7 : Int32) (b8 : Int32) (c1 : Int32) (c2 : Int32) (c3 : Int32) (c4 : Int32) (a1 : Int32) (a2 : Int32) (a3 : Int32) (a4 : Int32) (nv : Int32) (RA : Nat → Option Nat) (WT : Nat → Int32) (EX : Nat → Int32) (EY : Nat → Int32) (GR : Nat → Int32) (LV : Nat → Int32) (y1 : Int64) (y2 : Int64) (y3 : Int64) (y4 : Int64) (a : Nat → Nat) (I0 : Nat → Int32) (J0 : Nat → Int64) (kd : Nat → Int32) (st : Nat → Int32) (gb : Nat → Int32) (it : Nat → Int32) (pa : Nat → Int32) (pb : Nat → Int32) (rk : Nat → Int32) (wd : Nat → Int32) (tw : Nat → Int32) (tn : Nat → Int32) (mn : Nat → Int32) (cx : Nat → Int32) (cy : Nat → Int32) (sa : Nat → Int32) (shs : Nat → Int32) (wh : Nat → Int32) (of9 : Nat → Int32) (we : Nat → Int32) (la : Nat → Int32) (lb : Nat → Int32) (lc : Nat → Int32) (ld : Nat → Int32) (P0 : Nat → Int32) (Q0 : Nat → Int32) (S0 : Nat → Int32) (ox : Nat → Int32) (oy : Nat → Int32) (mt : Nat → Int32) (wi : Nat → Int32) (ins : Nat → Int32) (T0 : Nat → Int32) (fl : Nat → Int32) (mk : Nat → Int32) (jx : Nat → Int32) (jy : Nat → Int32) (gr : Nat → Int32) (bs : Nat) (dn : Nat) (T : Nat) (ft : Nat) (Sn : Nat) (AD : Nat) (C : Nat) (ln : Nat) (FT : Nat → Nat) (cc : Nat → Nat) (W9 : Nat → Nat) (V : Nat → Nat → Nat → Int32) (VX : Nat → Nat → Int32) (VY : Nat → Nat → Int32) (cp cl U k9 : Nat) (hk9 : 6 * k9 + 6 ≤ L9) (hL9 : L9 ≤ 3072) {H : Heap} {locs : List Loc} {ls : Array Slot} (hPD : zPD (dC, dI) classes (fun q : Nat => s.heap.size ≤ q) (((oc8 x (.ref sh) (.ref lw) (.ref ro) (.ref bq) (.ref bp) (.ref dq) (.ref dp) (.ref lv) (.ref sl) (nI dn) (nI bs) ul su) :: (oc10 sl mc9 (.ref ea) (nI T)) :: (oc7 sh (.ref fa) (nI ft)) :: (oq fa cF 200 FA) :: (oc3 lw (.ref dr) (.ref tg) (.ref wy) (.ref br) (.ref bo) (.ref aa)) :: (oc6 dr (.ref dx) (.ref dy) (nI nd) rd) :: (oa dx cI 40 P) :: (oa dy cI 40 Q) :: (oc6 tg (.ref tx) (.ref ty) (nI nt) rt) :: (oa tx cI 3 TX) :: (oa ty cI 3 TY) :: (oc6 wy (.ref wx) (.ref wz) (nI nw) rw) :: (oa wx cI 2 WX) :: (oa wz cI 2 WY) :: (oc0 br b1 b2 b3 b4) :: (oc0 bo b5 b6 b7 b8) :: (oa aa cI 40 AR) :: (oc5 ro (.ref za) (.ref zw) (.ref zx) (.ref zy) (.ref zg) nv) :: (oq za cF 200 RA) :: (oa zw cI 200 WT) :: (oa zx cI 400 EX) :: (oa zy cI 400 EY) :: (oa zg cI 400 GR) :: (oc0 bq c1 c2 c3 c4) :: (oc0 bp a1 a2 a3 a4) :: (oc2 dq y1 y2) :: (oc2 dp y3 y4) :: (oa lv cZ 200 LV) :: (om k0 a (upd I0 26 (nI ln)) J0) :: (oa (a 1) cI 201 kd) :: (oa (a 5) cI 201 st) :: (oa (a 7) cI 201 gb) :: (oa (a 10) cI 201 it) :: (oa (a 8) cI 201 pa) :: (oa (a 9) cI 201 pb) :: (oa (a 2) cI 201 rk) :: (oa (a 3) cI 201 wd) :: (oa (a 4) cI 201 tw) :: (oa (a 6) cZ 201 tn) :: (oa (a 11) cI 201 mn) :: (oa (a 12) cI 8040 cx) :: (oa (a 13) cI 8040 cy) :: (oa (a 27) cI 516 sa) :: (oa (a 28) cI (4096 * cp) shs) :: (oa (a 16) cI 514 wh) :: (oa (a 17) cI 514 of9) :: (oa (a 18) cI 514 we) :: (oa (a 22) cI (64 * cl) la) :: (oa (a 23) cI (64 * cl) lb) :: (oa (a 24) cI (64 * cl) lc) :: (oa (a 25) cI (64 * cl) ld) :: (oa (a 29) cI 42 P0) :: (oa (a 30) cI 42 Q0) :: (oa (a 32) cI 8 S0) :: (oa (a 33) cI 42 ox) :: (oa (a 34) cI 42 oy) :: (oa (a 37) cZ 201 mt) :: (oa (a 38) cZ 201 wi) :: (oa (a 39) cZ 8040 ins) :: (oa (a 40) cI 6 T0) :: (oa (a 43) cZ 40 fl) :: (oa (a 50) cZ 201 mk) :: (oa (a 51) cI 402 jx) :: (oa (a 52) cI 402 jy) :: (oa (a 53) cI 402 gr) :: []) ++ va_pl L f) H) (hS : va_S (fun q : Nat => s.heap.size ≤ q) s.heap H locs) (hl : lv_has ls 4 [(3, .int (nI (6 * k9))), (2, .ref k0), (1, .ref x), (0, .ref b)]) (hB : shB cI cO L f e0 FA ea bs dn T ft FT V VX VY tn rk wd tw pa pb wh of9 we kd st gb it mn cx cy) (hI : INV k9 Sn AD C cc W9 bs T ft cp ln cl FT V VX VY tn rk wd tw pa pb kd st it mn cx cy sa shs lb lc) (hM : I0 0 = nI ft ∧ I0 19 = nI dn ∧ I0 20 = nI (T - dn) ∧ I0 21 = nI bs) (hU : U ≤ Sn * (28 * (AD + C) + 1000) + 200 * (AD + C)) (hbad : ¬ (0 ≤ (xs (6 * k9 + 1)).toInt ∧ (xs (6 * k9 + 1)).toInt < ((ft : Nat) : Int))) (hnext : ∀ (cp1 cl1 U1 : Nat) (H : Heap) (locs : List Loc) (ls : Array Slot), lawI s dC dI cI cZ cF cO e0 mi x sl sh fa lw dr dx dy tg tx ty wy wx wz br bo aa ro za zw zx zy zg bq bp dq dp lv k0 (k9 + 1) cp1 cl1 U1 H → va_S (fun q : Nat => s.heap.size ≤ q) s.heap H locs → lv_has ls 4 [(3, .int (nI (6 * k9))), (2, .ref k0), (1, .ref x), (0, .ref b)] → W p l e room_1 s m #[Value.ref b] below meth c H locs (1000 + 1010 * (k9 + 1) + cp1 + 4 * cl1) (45000 + 8192 * cp1 + 512 * cl1 + U1) (lw_Z below #[Value.ref b] s) (F0 m 1081 ls [])) : W p l e room_1 s m #[Value.ref b] below meth c H locs (1000 + 1010 * k9 + cp + 4 * cl) (45000 + 8192 * cp + 512 * cl + U) (lw_Z below #[Value.ref b] s) (F0 m 339 ls []) := by
  obtain ⟨hP, hD⟩ := hPD
  obtain ⟨hx, hb, hr, hml, hown, hts1, hX, hbl, hlocks, hgv⟩ := id C0
  have hts : ∀ w9 ∈ ws0, w9.before #[Value.ref b] s = true := fun w9 h => hts1 w9 (List.mem_filter.mp h).1
  have hA : ∀ q : Nat, s.heap.size ≤ q → (fun q : Nat => s.heap.size ≤ q) q := fun _ h => h
  have hbA : ¬ (fun q : Nat => s.heap.size ≤ q) b := Nat.not_le.mpr hbl
  have hXN := hXL.1
  have hK3 := hK.sub [0, 1, 2] rfl
  obtain ⟨hm0, hm19, hm20, hm21⟩ := hM
  have hpo := shB_po hB
  have hK512 : k9 + 1 ≤ 512 := (by omega)
  have hwfS := hI.1.1
  have hbdC := hI.1.2.2.1
  have hT0 := hI.1.2.2.2
  have hd9 := hpo.1
  have h200t : ∀ t, bs ≤ t → t ≤ T → FT t ≤ 200 := fun t t1 t2 => Nat.le_trans (hpo.2.1 t T t1 t2 (Nat.le_refl _)) hd9.2.2.2.2
  have h200f : ft ≤ 200 := (by rw [hd9.2.2.2.1]; exact h200t dn hd9.1 hd9.2.1)
  have hrkA : ∀ q, lvF ft st tn q → 0 ≤ (rk q).toInt ∧ (rk q).toInt ≤ 9 := fun q hq => (hI.1.2.1 q (Nat.lt_of_lt_of_le hq.1 (by rw [hd9.2.2.2.1]; exact hpo.2.1 dn T hd9.1 hd9.2.1 (Nat.le_refl _)))).1
  have hwdA : ∀ q, q < ft → 0 ≤ (wd q).toInt ∧ (wd q).toInt ≤ 100 := fun q hq => (hI.1.2.1 q (Nat.lt_of_lt_of_le hq (by rw [hd9.2.2.2.1]; exact hpo.2.1 dn T hd9.1 hd9.2.1 (Nat.le_refl _)))).2
  have hcp5 := INV_cp hI (by omega)
  have hcp1 := hI.2.2.1.2.1
  have hcnt := hI.2.2.2.1
  have hlst := hI.2.2.2.2
  have hlb := mul_514 (a := Sn) (b := C) (by omega)
  have hftA := bdC_F hbdC
  have hrm := room_c (Sn := Sn) (AD := AD) (C := C) (c := cp) (cl := cl) (U := U) (by omega) hI.2.2.1.2.2.2.2.2 hlst.2.2.2.1 hU
  refine la_5_1 l C0 hk9 hL9 hS hl (rfl) ?_
  obtain ⟨hPc, hDc, hFc⟩ := zc_sub (wc := [_, _, _]) hP hD hS hA [0, 2, 3] rfl rfl
  refine zcall (st1 := [.int 0]) (va_runV (As := [.int (xs (6 * k9 + 1))]) (rest := []) ⟨hx, hb, hml, hown, hts⟩ (k_smooth_x l dC dI cI cZ cF H.size x sh lw ro bq bp dq dp lv sl (nI bs) ul su (nI dn) fa ft FA (xs (6 * k9 + 1)) (h200f) (hbad)) (csV_239 hts rfl rfl ⟨Nat.le_of_ble_eq_true rfl, Nat.le_of_ble_eq_true rfl⟩) (zPV2 (q0 := 0) (ci := 8) hPc hDc hK3 hXN rfl rfl) rfl rfl hl.1 rfl (lv_room (Nat.le_of_ble_eq_true rfl)) dL_law_345 ⟨show 1000 + 1010 * k9 + cp + 4 * cl ≤ 600000 by omega, show 45000 + 8192 * cp + 512 * cl + U ≤ 7302250 by omega⟩) hS hFc hFc rfl (fun t H locs ht hB hk1 hS => ?_)
  obtain ⟨q_1, q_2, hP1, hD1⟩ := hB
  rw [ht] at hP1
  obtain ⟨hP, hD⟩ := zkQ (W2 := ((oc8 x (.ref sh) (.ref lw) (.ref ro) (.ref bq) (.ref bp) (.ref dq) (.ref dp) (.ref lv) (.ref sl) (nI dn) (nI bs) q_1 q_2) :: _ :: _ :: _ :: _ :: _ :: _ :: _ :: _ :: _ :: _ :: _ :: _ :: _ :: _ :: _ :: _ :: _ :: _ :: _ :: _ :: _ :: _ :: _ :: _ :: _ :: _ :: _ :: _ :: _ :: _ :: _ :: _ :: _ :: _ :: _ :: _ :: _ :: _ :: _ :: _ :: _ :: _ :: _ :: _ :: _ :: _ :: _ :: _ :: _ :: _ :: _ :: _ :: _ :: _ :: _ :: _ :: _ :: _ :: _ :: _ :: _ :: _ :: _ :: _ :: [])) hP hD [0, 2, 3] (1 :: 4 :: 5 :: 6 :: 7 :: 8 :: 9 :: 10 :: 11 :: 12 :: 13 :: 14 :: 15 :: 16 :: 17 :: 18 :: 19 :: 20 :: 21 :: 22 :: 23 :: 24 :: 25 :: 26 :: 27 :: 28 :: 29 :: 30 :: 31 :: 32 :: 33 :: 34 :: 35 :: 36 :: 37 :: 38 :: 39 :: 40 :: 41 :: 42 :: 43 :: 44 :: 45 :: 46 :: 47 :: 48 :: 49 :: 50 :: 51 :: 52 :: 53 :: 54 :: 55 :: 56 :: 57 :: 58 :: 59 :: 60 :: 61 :: 62 :: 63 :: 64 :: []) (1 :: 4 :: 5 :: 6 :: 7 :: 8 :: 9 :: 10 :: 11 :: 12 :: 13 :: 14 :: 15 :: 16 :: 17 :: 18 :: 19 :: 20 :: 21 :: 22 :: 23 :: 24 :: 25 :: 26 :: 27 :: 28 :: 29 :: 30 :: 31 :: 32 :: 33 :: 34 :: 35 :: 36 :: 37 :: 38 :: 39 :: 40 :: 41 :: 42 :: 43 :: 44 :: 45 :: 46 :: 47 :: 48 :: 49 :: 50 :: 51 :: 52 :: 53 :: 54 :: 55 :: 56 :: 57 :: 58 :: 59 :: 60 :: 61 :: 62 :: 63 :: 64 :: []) [0, 2, 3] (62 :: 0 :: 63 :: 64 :: 1 :: 2 :: 3 :: 4 :: 5 :: 6 :: 7 :: 8 :: 9 :: 10 :: 11 :: 12 :: 13 :: 14 :: 15 :: 16 :: 17 :: 18 :: 19 :: 20 :: 21 :: 22 :: 23 :: 24 :: 25 :: 26 :: 27 :: 28 :: 29 :: 30 :: 31 :: 32 :: 33 :: 34 :: 35 :: 36 :: 37 :: 38 :: 39 :: 40 :: 41 :: 42 :: 43 :: 44 :: 45 :: 46 :: 47 :: 48 :: 49 :: 50 :: 51 :: 52 :: 53 :: 54 :: 55 :: 56 :: 57 :: 58 :: 59 :: 60 :: 61 :: []) 65 rfl rfl rfl rfl rfl rfl rfl rfl rfl hk1 hFc hP1 hD1
  clear hk1 hPc hDc hFc hP1 hD1 ht
  refine lv_pop hx hb dL_law_348 rfl ?_
  refine la_5_2 l C0 hk9 hL9 hS hl (rfl) ?_
  obtain ⟨hPc, hDc, hFc⟩ := zc_sub (wc := [_]) hP hD hS hA [28] rfl rfl
  refine zcall (st1 := [.int 0]) (va_runV (As := [.int (xs (6 * k9 + 1))]) (rest := []) ⟨hx, hb, hml, hown, hts⟩ (k_M_smooth_x l dC dI cI cZ cF H.size k0 a (upd I0 26 (nI ln)) J0 ft (xs (6 * k9 + 1)) (hm0) (h200f) (hbad)) (csV_240 hts rfl rfl ⟨Nat.le_of_ble_eq_true rfl, Nat.le_of_ble_eq_true rfl⟩) (zPV2 (q0 := 0) (ci := 9) hPc hDc hK3 hXN rfl rfl) rfl rfl hl.1 rfl (lv_room (Nat.le_of_ble_eq_true rfl)) dL_law_355 ⟨show 1000 + 1010 * k9 + cp + 4 * cl ≤ 600000 by omega, show 45000 + 8192 * cp + 512 * cl + U ≤ 7302250 by omega⟩) hS hFc hFc rfl (fun t H locs ht hB hk1 hS => ?_)
  obtain ⟨hP1, hD1⟩ := hB
  rw [ht] at hP1
  obtain ⟨hP, hD⟩ := zkQ (W2 := (_ :: _ :: _ :: _ :: _ :: _ :: _ :: _ :: _ :: _ :: _ :: _ :: _ :: _ :: _ :: _ :: _ :: _ :: _ :: _ :: _ :: _ :: _ :: _ :: _ :: _ :: _ :: _ :: (om k0 a (upd (upd (upd I0 14 1) 15 (I0 15)) 26 (nI ln)) J0) :: _ :: _ :: _ :: _ :: _ :: _ :: _ :: _ :: _ :: _ :: _ :: _ :: _ :: _ :: _ :: _ :: _ :: _ :: _ :: _ :: _ :: _ :: _ :: _ :: _ :: _ :: _ :: _ :: _ :: _ :: _ :: _ :: _ :: _ :: _ :: _ :: [])) hP hD [28] (0 :: 1 :: 2 :: 3 :: 4 :: 5 :: 6 :: 7 :: 8 :: 9 :: 10 :: 11 :: 12 :: 13 :: 14 :: 15 :: 16 :: 17 :: 18 :: 19 :: 20 :: 21 :: 22 :: 23 :: 24 :: 25 :: 26 :: 27 :: 29 :: 30 :: 31 :: 32 :: 33 :: 34 :: 35 :: 36 :: 37 :: 38 :: 39 :: 40 :: 41 :: 42 :: 43 :: 44 :: 45 :: 46 :: 47 :: 48 :: 49 :: 50 :: 51 :: 52 :: 53 :: 54 :: 55 :: 56 :: 57 :: 58 :: 59 :: 60 :: 61 :: 62 :: 63 :: 64 :: []) (0 :: 1 :: 2 :: 3 :: 4 :: 5 :: 6 :: 7 :: 8 :: 9 :: 10 :: 11 :: 12 :: 13 :: 14 :: 15 :: 16 :: 17 :: 18 :: 19 :: 20 :: 21 :: 22 :: 23 :: 24 :: 25 :: 26 :: 27 :: 29 :: 30 :: 31 :: 32 :: 33 :: 34 :: 35 :: 36 :: 37 :: 38 :: 39 :: 40 :: 41 :: 42 :: 43 :: 44 :: 45 :: 46 :: 47 :: 48 :: 49 :: 50 :: 51 :: 52 :: 53 :: 54 :: 55 :: 56 :: 57 :: 58 :: 59 :: 60 :: 61 :: 62 :: 63 :: 64 :: []) [28] (0 :: 1 :: 2 :: 3 :: 4 :: 5 :: 6 :: 7 :: 8 :: 9 :: 10 :: 11 :: 12 :: 13 :: 14 :: 15 :: 16 :: 17 :: 18 :: 19 :: 20 :: 21 :: 22 :: 23 :: 24 :: 25 :: 26 :: 27 :: 64 :: 28 :: 29 :: 30 :: 31 :: 32 :: 33 :: 34 :: 35 :: 36 :: 37 :: 38 :: 39 :: 40 :: 41 :: 42 :: 43 :: 44 :: 45 :: 46 :: 47 :: 48 :: 49 :: 50 :: 51 :: 52 :: 53 :: 54 :: 55 :: 56 :: 57 :: 58 :: 59 :: 60 :: 61 :: 62 :: 63 :: []) 65 rfl rfl rfl rfl rfl rfl rfl rfl rfl hk1 hFc hP1 hD1
  clear hk1 hPc hDc hFc hP1 hD1 ht
  refine lv_pop hx hb dL_law_358 rfl ?_
  refine lv_goto (tgt := 1081) hx hb dL_law_359 rfl ?_
  obtain ⟨hP9, hD9⟩ := zq_part (cx := (_ :: _ :: _ :: _ :: _ :: _ :: _ :: _ :: _ :: _ :: _ :: _ :: _ :: _ :: _ :: _ :: _ :: _ :: _ :: _ :: _ :: _ :: _ :: _ :: _ :: _ :: _ :: _ :: _ :: _ :: _ :: _ :: _ :: _ :: _ :: _ :: _ :: _ :: _ :: _ :: _ :: _ :: _ :: _ :: _ :: _ :: _ :: _ :: _ :: _ :: _ :: _ :: _ :: _ :: _ :: _ :: _ :: _ :: _ :: _ :: _ :: _ :: _ :: _ :: _ :: [])) hP hD (0 :: 1 :: 2 :: 3 :: 4 :: 5 :: 6 :: 7 :: 8 :: 9 :: 10 :: 11 :: 12 :: 13 :: 14 :: 15 :: 16 :: 17 :: 18 :: 19 :: 20 :: 21 :: 22 :: 23 :: 24 :: 25 :: 26 :: 27 :: 28 :: 29 :: 30 :: 31 :: 32 :: 33 :: 34 :: 35 :: 36 :: 37 :: 38 :: 39 :: 40 :: 41 :: 42 :: 43 :: 44 :: 45 :: 46 :: 47 :: 48 :: 49 :: 50 :: 51 :: 52 :: 53 :: 54 :: 55 :: 56 :: 57 :: 58 :: 59 :: 60 :: 61 :: 62 :: 63 :: 64 :: []) rfl rfl
  refine W.widen (k := 1000 + 1010 * (k9 + 1) + cp + 4 * cl) (n := 45000 + 8192 * cp + 512 * cl + U) (by omega) (by omega) ?_
  have e26 : upd (upd (upd (upd I0 14 1) 15 (I0 15)) 26 (nI ln)) 26 (nI ln) = (upd (upd (upd I0 14 1) 15 (I0 15)) 26 (nI ln)) := up_same rfl
  exact hnext cp cl U H locs ls (lawI_in L f FA ea nd nt nw q_1 q_2 mc9 rd rt rw P Q TX TY WX WY AR b1 b2 b3 b4 b5 b6 b7 b8 c1 c2 c3 c4 a1 a2 a3 a4 nv RA WT EX EY GR LV y1 y2 y3 y4 a (upd (upd (upd I0 14 1) 15 (I0 15)) 26 (nI ln)) J0 kd st gb it pa pb rk wd tw tn mn cx cy sa shs wh of9 we la lb lc ld P0 Q0 S0 ox oy mt wi ins T0 fl mk jx jy gr bs dn T ft Sn AD C ln FT cc W9 V VX VY (by rw [e26]; exact hP9) (by rw [e26]; exact hD9) (hB) (INV_K hI) ⟨hm0, hm19, hm20, hm21⟩ (by omega)) hS (lv_sub hl [0, 1, 2, 3] rfl)
set_option maxHeartbeats 4000000 in
set_option maxRecDepth 100000 in
theorem lc_shift_x {p : Program} {e : Env} {s : State} {m : MethodId} {below : List Frame} {meth : Method} {c : Code} (l : Launch) {b L9 : Nat} {xs : Nat → Int32} (C0 : lw_At p s m meth c b L9 xs) (dC : Nat → ClassId) (dI : Nat → Nat → Nat) (cI cZ cF cO : ClassId) (e0 mi : Nat) (x sl sh fa lw dr dx dy tg tx ty wy wx wz br bo aa ro za zw zx zy zg bq bp dq dp lv k0 : Nat) (hK : va_K (dC, dI) classes (zTyO cI cZ cF cO) s) (hXL : zXL e0 mi (fun q : Nat => s.heap.size ≤ q) s) (L : List Nat) (f : Nat → va_E) (FA : Nat → Option Nat) (ea : Nat) (nd : Nat) (nt : Nat) (nw : Nat) (ul : Int32) (su : Int32) (mc9 : Int32) (rd : Int32) (rt : Int32) (rw : Int32) (P : Nat → Int32) (Q : Nat → Int32) (TX : Nat → Int32) (TY : Nat → Int32) (WX : Nat → Int32) (WY : Nat → Int32) (AR : Nat → Int32) (b1 : Int32) (b2 : Int32) (b3 : Int32) (b4 : Int32) (b5 : Int32) (b6 : Int32) (b7 : Int32) (b8 : Int32) (c1 : Int32) (c2 : Int32) (c3 : Int32) (c4 : Int32) (a1 : Int32) (a2 : Int32) (a3 : Int32) (a4 : Int32) (nv : Int32) (RA : Nat → Option Nat) (WT : Nat → Int32) (EX : Nat → Int32) (EY : Nat → Int32) (GR : Nat → Int32) (LV : Nat → Int32) (y1 : Int64) (y2 : Int64) (y3 : Int64) (y4 : Int64) (a : Nat → Nat) (I0 : Nat → Int32) (J0 : Nat → Int64) (kd : Nat → Int32) (st : Nat → Int32) (gb : Nat → Int32) (it : Nat → Int32) (pa : Nat → Int32) (pb : Nat → Int32) (rk : Nat → Int32) (wd : Nat → Int32) (tw : Nat → Int32) (tn : Nat → Int32) (mn : Nat → Int32) (cx : Nat → Int32) (cy : Nat → Int32) (sa : Nat → Int32) (shs : Nat → Int32) (wh : Nat → Int32) (of9 : Nat → Int32) (we : Nat → Int32) (la : Nat → Int32) (lb : Nat → Int32) (lc : Nat → Int32) (ld : Nat → Int32) (P0 : Nat → Int32) (Q0 : Nat → Int32) (S0 : Nat → Int32) (ox : Nat → Int32) (oy : Nat → Int32) (mt : Nat → Int32) (wi : Nat → Int32) (ins : Nat → Int32) (T0 : Nat → Int32) (fl : Nat → Int32) (mk : Nat → Int32) (jx : Nat → Int32) (jy : Nat → Int32) (gr : Nat → Int32) (bs : Nat) (dn : Nat) (T : Nat) (ft : Nat) (Sn : Nat) (AD : Nat) (C : Nat) (ln : Nat) (FT : Nat → Nat) (cc : Nat → Nat) (W9 : Nat → Nat) (V : Nat → Nat → Nat → Int32) (VX : Nat → Nat → Int32) (VY : Nat → Nat → Int32) (cp cl U k9 : Nat) (hk9 : 6 * k9 + 6 ≤ L9) (hL9 : L9 ≤ 3072) {H : Heap} {locs : List Loc} {ls : Array Slot} (hPD : zPD (dC, dI) classes (fun q : Nat => s.heap.size ≤ q) (((oc8 x (.ref sh) (.ref lw) (.ref ro) (.ref bq) (.ref bp) (.ref dq) (.ref dp) (.ref lv) (.ref sl) (nI dn) (nI bs) ul su) :: (oc10 sl mc9 (.ref ea) (nI T)) :: (oc7 sh (.ref fa) (nI ft)) :: (oq fa cF 200 FA) :: (oc3 lw (.ref dr) (.ref tg) (.ref wy) (.ref br) (.ref bo) (.ref aa)) :: (oc6 dr (.ref dx) (.ref dy) (nI nd) rd) :: (oa dx cI 40 P) :: (oa dy cI 40 Q) :: (oc6 tg (.ref tx) (.ref ty) (nI nt) rt) :: (oa tx cI 3 TX) :: (oa ty cI 3 TY) :: (oc6 wy (.ref wx) (.ref wz) (nI nw) rw) :: (oa wx cI 2 WX) :: (oa wz cI 2 WY) :: (oc0 br b1 b2 b3 b4) :: (oc0 bo b5 b6 b7 b8) :: (oa aa cI 40 AR) :: (oc5 ro (.ref za) (.ref zw) (.ref zx) (.ref zy) (.ref zg) nv) :: (oq za cF 200 RA) :: (oa zw cI 200 WT) :: (oa zx cI 400 EX) :: (oa zy cI 400 EY) :: (oa zg cI 400 GR) :: (oc0 bq c1 c2 c3 c4) :: (oc0 bp a1 a2 a3 a4) :: (oc2 dq y1 y2) :: (oc2 dp y3 y4) :: (oa lv cZ 200 LV) :: (om k0 a (upd I0 26 (nI ln)) J0) :: (oa (a 1) cI 201 kd) :: (oa (a 5) cI 201 st) :: (oa (a 7) cI 201 gb) :: (oa (a 10) cI 201 it) :: (oa (a 8) cI 201 pa) :: (oa (a 9) cI 201 pb) :: (oa (a 2) cI 201 rk) :: (oa (a 3) cI 201 wd) :: (oa (a 4) cI 201 tw) :: (oa (a 6) cZ 201 tn) :: (oa (a 11) cI 201 mn) :: (oa (a 12) cI 8040 cx) :: (oa (a 13) cI 8040 cy) :: (oa (a 27) cI 516 sa) :: (oa (a 28) cI (4096 * cp) shs) :: (oa (a 16) cI 514 wh) :: (oa (a 17) cI 514 of9) :: (oa (a 18) cI 514 we) :: (oa (a 22) cI (64 * cl) la) :: (oa (a 23) cI (64 * cl) lb) :: (oa (a 24) cI (64 * cl) lc) :: (oa (a 25) cI (64 * cl) ld) :: (oa (a 29) cI 42 P0) :: (oa (a 30) cI 42 Q0) :: (oa (a 32) cI 8 S0) :: (oa (a 33) cI 42 ox) :: (oa (a 34) cI 42 oy) :: (oa (a 37) cZ 201 mt) :: (oa (a 38) cZ 201 wi) :: (oa (a 39) cZ 8040 ins) :: (oa (a 40) cI 6 T0) :: (oa (a 43) cZ 40 fl) :: (oa (a 50) cZ 201 mk) :: (oa (a 51) cI 402 jx) :: (oa (a 52) cI 402 jy) :: (oa (a 53) cI 402 gr) :: []) ++ va_pl L f) H) (hS : va_S (fun q : Nat => s.heap.size ≤ q) s.heap H locs) (hl : lv_has ls 4 [(3, .int (nI (6 * k9))), (2, .ref k0), (1, .ref x), (0, .ref b)]) (hB : shB cI cO L f e0 FA ea bs dn T ft FT V VX VY tn rk wd tw pa pb wh of9 we kd st gb it mn cx cy) (hI : INV k9 Sn AD C cc W9 bs T ft cp ln cl FT V VX VY tn rk wd tw pa pb kd st it mn cx cy sa shs lb lc) (hM : I0 0 = nI ft ∧ I0 19 = nI dn ∧ I0 20 = nI (T - dn) ∧ I0 21 = nI bs) (hU : U ≤ Sn * (28 * (AD + C) + 1000) + 200 * (AD + C)) (hbad : ¬ (0 ≤ (xs (6 * k9 + 1)).toInt ∧ (xs (6 * k9 + 1)).toInt < ((ft : Nat) : Int))) (hnext : ∀ (cp1 cl1 U1 : Nat) (H : Heap) (locs : List Loc) (ls : Array Slot), lawI s dC dI cI cZ cF cO e0 mi x sl sh fa lw dr dx dy tg tx ty wy wx wz br bo aa ro za zw zx zy zg bq bp dq dp lv k0 (k9 + 1) cp1 cl1 U1 H → va_S (fun q : Nat => s.heap.size ≤ q) s.heap H locs → lv_has ls 4 [(3, .int (nI (6 * k9))), (2, .ref k0), (1, .ref x), (0, .ref b)] → W p l e room_1 s m #[Value.ref b] below meth c H locs (1000 + 1010 * (k9 + 1) + cp1 + 4 * cl1) (45000 + 8192 * cp1 + 512 * cl1 + U1) (lw_Z below #[Value.ref b] s) (F0 m 1081 ls [])) : W p l e room_1 s m #[Value.ref b] below meth c H locs (1000 + 1010 * k9 + cp + 4 * cl) (45000 + 8192 * cp + 512 * cl + U) (lw_Z below #[Value.ref b] s) (F0 m 362 ls []) := by
  obtain ⟨hP, hD⟩ := hPD
  obtain ⟨hx, hb, hr, hml, hown, hts1, hX, hbl, hlocks, hgv⟩ := id C0
  have hts : ∀ w9 ∈ ws0, w9.before #[Value.ref b] s = true := fun w9 h => hts1 w9 (List.mem_filter.mp h).1
  have hA : ∀ q : Nat, s.heap.size ≤ q → (fun q : Nat => s.heap.size ≤ q) q := fun _ h => h
  have hbA : ¬ (fun q : Nat => s.heap.size ≤ q) b := Nat.not_le.mpr hbl
  have hXN := hXL.1
  have hK3 := hK.sub [0, 1, 2] rfl
  obtain ⟨hm0, hm19, hm20, hm21⟩ := hM
  have hpo := shB_po hB
  have hK512 : k9 + 1 ≤ 512 := (by omega)
  have hwfS := hI.1.1
  have hbdC := hI.1.2.2.1
  have hT0 := hI.1.2.2.2
  have hd9 := hpo.1
  have h200t : ∀ t, bs ≤ t → t ≤ T → FT t ≤ 200 := fun t t1 t2 => Nat.le_trans (hpo.2.1 t T t1 t2 (Nat.le_refl _)) hd9.2.2.2.2
  have h200f : ft ≤ 200 := (by rw [hd9.2.2.2.1]; exact h200t dn hd9.1 hd9.2.1)
  have hrkA : ∀ q, lvF ft st tn q → 0 ≤ (rk q).toInt ∧ (rk q).toInt ≤ 9 := fun q hq => (hI.1.2.1 q (Nat.lt_of_lt_of_le hq.1 (by rw [hd9.2.2.2.1]; exact hpo.2.1 dn T hd9.1 hd9.2.1 (Nat.le_refl _)))).1
  have hwdA : ∀ q, q < ft → 0 ≤ (wd q).toInt ∧ (wd q).toInt ≤ 100 := fun q hq => (hI.1.2.1 q (Nat.lt_of_lt_of_le hq (by rw [hd9.2.2.2.1]; exact hpo.2.1 dn T hd9.1 hd9.2.1 (Nat.le_refl _)))).2
  have hcp5 := INV_cp hI (by omega)
  have hcp1 := hI.2.2.1.2.1
  have hcnt := hI.2.2.2.1
  have hlst := hI.2.2.2.2
  have hlb := mul_514 (a := Sn) (b := C) (by omega)
  have hftA := bdC_F hbdC
  have hrm := room_c (Sn := Sn) (AD := AD) (C := C) (c := cp) (cl := cl) (U := U) (by omega) hI.2.2.1.2.2.2.2.2 hlst.2.2.2.1 hU
  refine la_6_1 l C0 hk9 hL9 hS hl (rfl) (rfl) (rfl) (rfl) (rfl) ?_
  obtain ⟨hPc, hDc, hFc⟩ := zc_sub (wc := [_, _, _]) hP hD hS hA [0, 2, 3] rfl rfl
  refine zcall (st1 := [.int 0]) (va_runV (As := [.int (xs (6 * k9 + 1)), .int (xs (6 * k9 + 2)), .int (xs (6 * k9 + 3)), .int (xs (6 * k9 + 4)), .int (xs (6 * k9 + 5))]) (rest := []) ⟨hx, hb, hml, hown, hts⟩ (k_shift_x l dC dI cI cZ cF H.size x sh lw ro bq bp dq dp lv sl (nI bs) ul su (nI dn) fa ft FA (xs (6 * k9 + 1)) (xs (6 * k9 + 2)) (xs (6 * k9 + 3)) (xs (6 * k9 + 4)) (xs (6 * k9 + 5)) (h200f) (hbad)) (csV_241 hts rfl rfl ⟨Nat.le_of_ble_eq_true rfl, Nat.le_of_ble_eq_true rfl⟩) (zPV2 (q0 := 0) (ci := 8) hPc hDc hK3 hXN rfl rfl) rfl rfl hl.1 rfl (lv_room (Nat.le_of_ble_eq_true rfl)) dL_law_388 ⟨show 1000 + 1010 * k9 + cp + 4 * cl ≤ 600000 by omega, show 45000 + 8192 * cp + 512 * cl + U ≤ 7302250 by omega⟩) hS hFc hFc rfl (fun t H locs ht hB hk1 hS => ?_)
  obtain ⟨q_1, q_2, hP1, hD1⟩ := hB
  rw [ht] at hP1
  obtain ⟨hP, hD⟩ := zkQ (W2 := ((oc8 x (.ref sh) (.ref lw) (.ref ro) (.ref bq) (.ref bp) (.ref dq) (.ref dp) (.ref lv) (.ref sl) (nI dn) (nI bs) q_1 q_2) :: _ :: _ :: _ :: _ :: _ :: _ :: _ :: _ :: _ :: _ :: _ :: _ :: _ :: _ :: _ :: _ :: _ :: _ :: _ :: _ :: _ :: _ :: _ :: _ :: _ :: _ :: _ :: _ :: _ :: _ :: _ :: _ :: _ :: _ :: _ :: _ :: _ :: _ :: _ :: _ :: _ :: _ :: _ :: _ :: _ :: _ :: _ :: _ :: _ :: _ :: _ :: _ :: _ :: _ :: _ :: _ :: _ :: _ :: _ :: _ :: _ :: _ :: _ :: _ :: [])) hP hD [0, 2, 3] (1 :: 4 :: 5 :: 6 :: 7 :: 8 :: 9 :: 10 :: 11 :: 12 :: 13 :: 14 :: 15 :: 16 :: 17 :: 18 :: 19 :: 20 :: 21 :: 22 :: 23 :: 24 :: 25 :: 26 :: 27 :: 28 :: 29 :: 30 :: 31 :: 32 :: 33 :: 34 :: 35 :: 36 :: 37 :: 38 :: 39 :: 40 :: 41 :: 42 :: 43 :: 44 :: 45 :: 46 :: 47 :: 48 :: 49 :: 50 :: 51 :: 52 :: 53 :: 54 :: 55 :: 56 :: 57 :: 58 :: 59 :: 60 :: 61 :: 62 :: 63 :: 64 :: []) (1 :: 4 :: 5 :: 6 :: 7 :: 8 :: 9 :: 10 :: 11 :: 12 :: 13 :: 14 :: 15 :: 16 :: 17 :: 18 :: 19 :: 20 :: 21 :: 22 :: 23 :: 24 :: 25 :: 26 :: 27 :: 28 :: 29 :: 30 :: 31 :: 32 :: 33 :: 34 :: 35 :: 36 :: 37 :: 38 :: 39 :: 40 :: 41 :: 42 :: 43 :: 44 :: 45 :: 46 :: 47 :: 48 :: 49 :: 50 :: 51 :: 52 :: 53 :: 54 :: 55 :: 56 :: 57 :: 58 :: 59 :: 60 :: 61 :: 62 :: 63 :: 64 :: []) [0, 2, 3] (62 :: 0 :: 63 :: 64 :: 1 :: 2 :: 3 :: 4 :: 5 :: 6 :: 7 :: 8 :: 9 :: 10 :: 11 :: 12 :: 13 :: 14 :: 15 :: 16 :: 17 :: 18 :: 19 :: 20 :: 21 :: 22 :: 23 :: 24 :: 25 :: 26 :: 27 :: 28 :: 29 :: 30 :: 31 :: 32 :: 33 :: 34 :: 35 :: 36 :: 37 :: 38 :: 39 :: 40 :: 41 :: 42 :: 43 :: 44 :: 45 :: 46 :: 47 :: 48 :: 49 :: 50 :: 51 :: 52 :: 53 :: 54 :: 55 :: 56 :: 57 :: 58 :: 59 :: 60 :: 61 :: []) 65 rfl rfl rfl rfl rfl rfl rfl rfl rfl hk1 hFc hP1 hD1
  clear hk1 hPc hDc hFc hP1 hD1 ht
  refine lv_pop hx hb dL_law_391 rfl ?_
  refine la_6_2 l C0 hk9 hL9 hS hl (rfl) (rfl) (rfl) (rfl) (rfl) ?_
  obtain ⟨hPc, hDc, hFc⟩ := zc_sub (wc := [_]) hP hD hS hA [28] rfl rfl
  refine zcall (st1 := [.int 0]) (va_runV (As := [.int (xs (6 * k9 + 1)), .int (xs (6 * k9 + 2)), .int (xs (6 * k9 + 3)), .int (xs (6 * k9 + 4)), .int (xs (6 * k9 + 5))]) (rest := []) ⟨hx, hb, hml, hown, hts⟩ (k_M_shift_x l dC dI cI cZ cF H.size k0 a (upd I0 26 (nI ln)) J0 ft (xs (6 * k9 + 1)) (xs (6 * k9 + 2)) (xs (6 * k9 + 3)) (xs (6 * k9 + 4)) (xs (6 * k9 + 5)) (hm0) (h200f) (hbad)) (csV_242 hts rfl rfl ⟨Nat.le_of_ble_eq_true rfl, Nat.le_of_ble_eq_true rfl⟩) (zPV2 (q0 := 0) (ci := 9) hPc hDc hK3 hXN rfl rfl) rfl rfl hl.1 rfl (lv_room (Nat.le_of_ble_eq_true rfl)) dL_law_418 ⟨show 1000 + 1010 * k9 + cp + 4 * cl ≤ 600000 by omega, show 45000 + 8192 * cp + 512 * cl + U ≤ 7302250 by omega⟩) hS hFc hFc rfl (fun t H locs ht hB hk1 hS => ?_)
  obtain ⟨hP1, hD1⟩ := hB
  rw [ht] at hP1
  obtain ⟨hP, hD⟩ := zkQ (W2 := (_ :: _ :: _ :: _ :: _ :: _ :: _ :: _ :: _ :: _ :: _ :: _ :: _ :: _ :: _ :: _ :: _ :: _ :: _ :: _ :: _ :: _ :: _ :: _ :: _ :: _ :: _ :: _ :: (om k0 a (upd (upd (upd I0 14 1) 15 (I0 15)) 26 (nI ln)) J0) :: _ :: _ :: _ :: _ :: _ :: _ :: _ :: _ :: _ :: _ :: _ :: _ :: _ :: _ :: _ :: _ :: _ :: _ :: _ :: _ :: _ :: _ :: _ :: _ :: _ :: _ :: _ :: _ :: _ :: _ :: _ :: _ :: _ :: _ :: _ :: _ :: [])) hP hD [28] (0 :: 1 :: 2 :: 3 :: 4 :: 5 :: 6 :: 7 :: 8 :: 9 :: 10 :: 11 :: 12 :: 13 :: 14 :: 15 :: 16 :: 17 :: 18 :: 19 :: 20 :: 21 :: 22 :: 23 :: 24 :: 25 :: 26 :: 27 :: 29 :: 30 :: 31 :: 32 :: 33 :: 34 :: 35 :: 36 :: 37 :: 38 :: 39 :: 40 :: 41 :: 42 :: 43 :: 44 :: 45 :: 46 :: 47 :: 48 :: 49 :: 50 :: 51 :: 52 :: 53 :: 54 :: 55 :: 56 :: 57 :: 58 :: 59 :: 60 :: 61 :: 62 :: 63 :: 64 :: []) (0 :: 1 :: 2 :: 3 :: 4 :: 5 :: 6 :: 7 :: 8 :: 9 :: 10 :: 11 :: 12 :: 13 :: 14 :: 15 :: 16 :: 17 :: 18 :: 19 :: 20 :: 21 :: 22 :: 23 :: 24 :: 25 :: 26 :: 27 :: 29 :: 30 :: 31 :: 32 :: 33 :: 34 :: 35 :: 36 :: 37 :: 38 :: 39 :: 40 :: 41 :: 42 :: 43 :: 44 :: 45 :: 46 :: 47 :: 48 :: 49 :: 50 :: 51 :: 52 :: 53 :: 54 :: 55 :: 56 :: 57 :: 58 :: 59 :: 60 :: 61 :: 62 :: 63 :: 64 :: []) [28] (0 :: 1 :: 2 :: 3 :: 4 :: 5 :: 6 :: 7 :: 8 :: 9 :: 10 :: 11 :: 12 :: 13 :: 14 :: 15 :: 16 :: 17 :: 18 :: 19 :: 20 :: 21 :: 22 :: 23 :: 24 :: 25 :: 26 :: 27 :: 64 :: 28 :: 29 :: 30 :: 31 :: 32 :: 33 :: 34 :: 35 :: 36 :: 37 :: 38 :: 39 :: 40 :: 41 :: 42 :: 43 :: 44 :: 45 :: 46 :: 47 :: 48 :: 49 :: 50 :: 51 :: 52 :: 53 :: 54 :: 55 :: 56 :: 57 :: 58 :: 59 :: 60 :: 61 :: 62 :: 63 :: []) 65 rfl rfl rfl rfl rfl rfl rfl rfl rfl hk1 hFc hP1 hD1
  clear hk1 hPc hDc hFc hP1 hD1 ht
  refine lv_pop hx hb dL_law_421 rfl ?_
  refine lv_goto (tgt := 1081) hx hb dL_law_422 rfl ?_
  obtain ⟨hP9, hD9⟩ := zq_part (cx := (_ :: _ :: _ :: _ :: _ :: _ :: _ :: _ :: _ :: _ :: _ :: _ :: _ :: _ :: _ :: _ :: _ :: _ :: _ :: _ :: _ :: _ :: _ :: _ :: _ :: _ :: _ :: _ :: _ :: _ :: _ :: _ :: _ :: _ :: _ :: _ :: _ :: _ :: _ :: _ :: _ :: _ :: _ :: _ :: _ :: _ :: _ :: _ :: _ :: _ :: _ :: _ :: _ :: _ :: _ :: _ :: _ :: _ :: _ :: _ :: _ :: _ :: _ :: _ :: _ :: [])) hP hD (0 :: 1 :: 2 :: 3 :: 4 :: 5 :: 6 :: 7 :: 8 :: 9 :: 10 :: 11 :: 12 :: 13 :: 14 :: 15 :: 16 :: 17 :: 18 :: 19 :: 20 :: 21 :: 22 :: 23 :: 24 :: 25 :: 26 :: 27 :: 28 :: 29 :: 30 :: 31 :: 32 :: 33 :: 34 :: 35 :: 36 :: 37 :: 38 :: 39 :: 40 :: 41 :: 42 :: 43 :: 44 :: 45 :: 46 :: 47 :: 48 :: 49 :: 50 :: 51 :: 52 :: 53 :: 54 :: 55 :: 56 :: 57 :: 58 :: 59 :: 60 :: 61 :: 62 :: 63 :: 64 :: []) rfl rfl
  refine W.widen (k := 1000 + 1010 * (k9 + 1) + cp + 4 * cl) (n := 45000 + 8192 * cp + 512 * cl + U) (by omega) (by omega) ?_
  have e26 : upd (upd (upd (upd I0 14 1) 15 (I0 15)) 26 (nI ln)) 26 (nI ln) = (upd (upd (upd I0 14 1) 15 (I0 15)) 26 (nI ln)) := up_same rfl
  exact hnext cp cl U H locs ls (lawI_in L f FA ea nd nt nw q_1 q_2 mc9 rd rt rw P Q TX TY WX WY AR b1 b2 b3 b4 b5 b6 b7 b8 c1 c2 c3 c4 a1 a2 a3 a4 nv RA WT EX EY GR LV y1 y2 y3 y4 a (upd (upd (upd I0 14 1) 15 (I0 15)) 26 (nI ln)) J0 kd st gb it pa pb rk wd tw tn mn cx cy sa shs wh of9 we la lb lc ld P0 Q0 S0 ox oy mt wi ins T0 fl mk jx jy gr bs dn T ft Sn AD C ln FT cc W9 V VX VY (by rw [e26]; exact hP9) (by rw [e26]; exact hD9) (hB) (INV_K hI) ⟨hm0, hm19, hm20, hm21⟩ (by omega)) hS (lv_sub hl [0, 1, 2, 3] rfl)
end
section
set_option maxHeartbeats 4000000 in
set_option maxRecDepth 100000 in
theorem lc_grow_x {p : Program} {e : Env} {s : State} {m : MethodId} {below : List Frame} {meth : Method} {c : Code} (l : Launch) {b L9 : Nat} {xs : Nat → Int32} (C0 : lw_At p s m meth c b L9 xs) (dC : Nat → ClassId) (dI : Nat → Nat → Nat) (cI cZ cF cO : ClassId) (e0 mi : Nat) (x sl sh fa lw dr dx dy tg tx ty wy wx wz br bo aa ro za zw zx zy zg bq bp dq dp lv k0 : Nat) (hK : va_K (dC, dI) classes (zTyO cI cZ cF cO) s) (hXL : zXL e0 mi (fun q : Nat => s.heap.size ≤ q) s) (L : List Nat) (f : Nat → va_E) (FA : Nat → Option Nat) (ea : Nat) (nd : Nat) (nt : Nat) (nw : Nat) (ul : Int32) (su : Int32) (mc9 : Int32) (rd : Int32) (rt : Int32) (rw : Int32) (P : Nat → Int32) (Q : Nat → Int32) (TX : Nat → Int32) (TY : Nat → Int32) (WX : Nat → Int32) (WY : Nat → Int32) (AR : Nat → Int32) (b1 : Int32) (b2 : Int32) (b3 : Int32) (b4 : Int32) (b5 : Int32) (b6 : Int32) (b7 : Int32) (b8 : Int32) (c1 : Int32) (c2 : Int32) (c3 : Int32) (c4 : Int32) (a1 : Int32) (a2 : Int32) (a3 : Int32) (a4 : Int32) (nv : Int32) (RA : Nat → Option Nat) (WT : Nat → Int32) (EX : Nat → Int32) (EY : Nat → Int32) (GR : Nat → Int32) (LV : Nat → Int32) (y1 : Int64) (y2 : Int64) (y3 : Int64) (y4 : Int64) (a : Nat → Nat) (I0 : Nat → Int32) (J0 : Nat → Int64) (kd : Nat → Int32) (st : Nat → Int32) (gb : Nat → Int32) (it : Nat → Int32) (pa : Nat → Int32) (pb : Nat → Int32) (rk : Nat → Int32) (wd : Nat → Int32) (tw : Nat → Int32) (tn : Nat → Int32) (mn : Nat → Int32) (cx : Nat → Int32) (cy : Nat → Int32) (sa : Nat → Int32) (shs : Nat → Int32) (wh : Nat → Int32) (of9 : Nat → Int32) (we : Nat → Int32) (la : Nat → Int32) (lb : Nat → Int32) (lc : Nat → Int32) (ld : Nat → Int32) (P0 : Nat → Int32) (Q0 : Nat → Int32) (S0 : Nat → Int32) (ox : Nat → Int32) (oy : Nat → Int32) (mt : Nat → Int32) (wi : Nat → Int32) (ins : Nat → Int32) (T0 : Nat → Int32) (fl : Nat → Int32) (mk : Nat → Int32) (jx : Nat → Int32) (jy : Nat → Int32) (gr : Nat → Int32) (bs : Nat) (dn : Nat) (T : Nat) (ft : Nat) (Sn : Nat) (AD : Nat) (C : Nat) (ln : Nat) (FT : Nat → Nat) (cc : Nat → Nat) (W9 : Nat → Nat) (V : Nat → Nat → Nat → Int32) (VX : Nat → Nat → Int32) (VY : Nat → Nat → Int32) (cp cl U k9 : Nat) (hk9 : 6 * k9 + 6 ≤ L9) (hL9 : L9 ≤ 3072) {H : Heap} {locs : List Loc} {ls : Array Slot} (hPD : zPD (dC, dI) classes (fun q : Nat => s.heap.size ≤ q) (((oc8 x (.ref sh) (.ref lw) (.ref ro) (.ref bq) (.ref bp) (.ref dq) (.ref dp) (.ref lv) (.ref sl) (nI dn) (nI bs) ul su) :: (oc10 sl mc9 (.ref ea) (nI T)) :: (oc7 sh (.ref fa) (nI ft)) :: (oq fa cF 200 FA) :: (oc3 lw (.ref dr) (.ref tg) (.ref wy) (.ref br) (.ref bo) (.ref aa)) :: (oc6 dr (.ref dx) (.ref dy) (nI nd) rd) :: (oa dx cI 40 P) :: (oa dy cI 40 Q) :: (oc6 tg (.ref tx) (.ref ty) (nI nt) rt) :: (oa tx cI 3 TX) :: (oa ty cI 3 TY) :: (oc6 wy (.ref wx) (.ref wz) (nI nw) rw) :: (oa wx cI 2 WX) :: (oa wz cI 2 WY) :: (oc0 br b1 b2 b3 b4) :: (oc0 bo b5 b6 b7 b8) :: (oa aa cI 40 AR) :: (oc5 ro (.ref za) (.ref zw) (.ref zx) (.ref zy) (.ref zg) nv) :: (oq za cF 200 RA) :: (oa zw cI 200 WT) :: (oa zx cI 400 EX) :: (oa zy cI 400 EY) :: (oa zg cI 400 GR) :: (oc0 bq c1 c2 c3 c4) :: (oc0 bp a1 a2 a3 a4) :: (oc2 dq y1 y2) :: (oc2 dp y3 y4) :: (oa lv cZ 200 LV) :: (om k0 a (upd I0 26 (nI ln)) J0) :: (oa (a 1) cI 201 kd) :: (oa (a 5) cI 201 st) :: (oa (a 7) cI 201 gb) :: (oa (a 10) cI 201 it) :: (oa (a 8) cI 201 pa) :: (oa (a 9) cI 201 pb) :: (oa (a 2) cI 201 rk) :: (oa (a 3) cI 201 wd) :: (oa (a 4) cI 201 tw) :: (oa (a 6) cZ 201 tn) :: (oa (a 11) cI 201 mn) :: (oa (a 12) cI 8040 cx) :: (oa (a 13) cI 8040 cy) :: (oa (a 27) cI 516 sa) :: (oa (a 28) cI (4096 * cp) shs) :: (oa (a 16) cI 514 wh) :: (oa (a 17) cI 514 of9) :: (oa (a 18) cI 514 we) :: (oa (a 22) cI (64 * cl) la) :: (oa (a 23) cI (64 * cl) lb) :: (oa (a 24) cI (64 * cl) lc) :: (oa (a 25) cI (64 * cl) ld) :: (oa (a 29) cI 42 P0) :: (oa (a 30) cI 42 Q0) :: (oa (a 32) cI 8 S0) :: (oa (a 33) cI 42 ox) :: (oa (a 34) cI 42 oy) :: (oa (a 37) cZ 201 mt) :: (oa (a 38) cZ 201 wi) :: (oa (a 39) cZ 8040 ins) :: (oa (a 40) cI 6 T0) :: (oa (a 43) cZ 40 fl) :: (oa (a 50) cZ 201 mk) :: (oa (a 51) cI 402 jx) :: (oa (a 52) cI 402 jy) :: (oa (a 53) cI 402 gr) :: []) ++ va_pl L f) H) (hS : va_S (fun q : Nat => s.heap.size ≤ q) s.heap H locs) (hl : lv_has ls 4 [(3, .int (nI (6 * k9))), (2, .ref k0), (1, .ref x), (0, .ref b)]) (hB : shB cI cO L f e0 FA ea bs dn T ft FT V VX VY tn rk wd tw pa pb wh of9 we kd st gb it mn cx cy) (hI : INV k9 Sn AD C cc W9 bs T ft cp ln cl FT V VX VY tn rk wd tw pa pb kd st it mn cx cy sa shs lb lc) (hM : I0 0 = nI ft ∧ I0 19 = nI dn ∧ I0 20 = nI (T - dn) ∧ I0 21 = nI bs) (hU : U ≤ Sn * (28 * (AD + C) + 1000) + 200 * (AD + C)) (hbad : ¬ (0 ≤ (xs (6 * k9 + 1)).toInt ∧ (xs (6 * k9 + 1)).toInt < ((ft : Nat) : Int))) (hnext : ∀ (cp1 cl1 U1 : Nat) (H : Heap) (locs : List Loc) (ls : Array Slot), lawI s dC dI cI cZ cF cO e0 mi x sl sh fa lw dr dx dy tg tx ty wy wx wz br bo aa ro za zw zx zy zg bq bp dq dp lv k0 (k9 + 1) cp1 cl1 U1 H → va_S (fun q : Nat => s.heap.size ≤ q) s.heap H locs → lv_has ls 4 [(3, .int (nI (6 * k9))), (2, .ref k0), (1, .ref x), (0, .ref b)] → W p l e room_1 s m #[Value.ref b] below meth c H locs (1000 + 1010 * (k9 + 1) + cp1 + 4 * cl1) (45000 + 8192 * cp1 + 512 * cl1 + U1) (lw_Z below #[Value.ref b] s) (F0 m 1081 ls [])) : W p l e room_1 s m #[Value.ref b] below meth c H locs (1000 + 1010 * k9 + cp + 4 * cl) (45000 + 8192 * cp + 512 * cl + U) (lw_Z below #[Value.ref b] s) (F0 m 425 ls []) := by
  obtain ⟨hP, hD⟩ := hPD
  obtain ⟨hx, hb, hr, hml, hown, hts1, hX, hbl, hlocks, hgv⟩ := id C0
  have hts : ∀ w9 ∈ ws0, w9.before #[Value.ref b] s = true := fun w9 h => hts1 w9 (List.mem_filter.mp h).1
  have hA : ∀ q : Nat, s.heap.size ≤ q → (fun q : Nat => s.heap.size ≤ q) q := fun _ h => h
  have hbA : ¬ (fun q : Nat => s.heap.size ≤ q) b := Nat.not_le.mpr hbl
  have hXN := hXL.1
  have hK3 := hK.sub [0, 1, 2] rfl
  obtain ⟨hm0, hm19, hm20, hm21⟩ := hM
  have hpo := shB_po hB
  have hK512 : k9 + 1 ≤ 512 := (by omega)
  have hwfS := hI.1.1
  have hbdC := hI.1.2.2.1
  have hT0 := hI.1.2.2.2
  have hd9 := hpo.1
  have h200t : ∀ t, bs ≤ t → t ≤ T → FT t ≤ 200 := fun t t1 t2 => Nat.le_trans (hpo.2.1 t T t1 t2 (Nat.le_refl _)) hd9.2.2.2.2
  have h200f : ft ≤ 200 := (by rw [hd9.2.2.2.1]; exact h200t dn hd9.1 hd9.2.1)
  have hrkA : ∀ q, lvF ft st tn q → 0 ≤ (rk q).toInt ∧ (rk q).toInt ≤ 9 := fun q hq => (hI.1.2.1 q (Nat.lt_of_lt_of_le hq.1 (by rw [hd9.2.2.2.1]; exact hpo.2.1 dn T hd9.1 hd9.2.1 (Nat.le_refl _)))).1
  have hwdA : ∀ q, q < ft → 0 ≤ (wd q).toInt ∧ (wd q).toInt ≤ 100 := fun q hq => (hI.1.2.1 q (Nat.lt_of_lt_of_le hq (by rw [hd9.2.2.2.1]; exact hpo.2.1 dn T hd9.1 hd9.2.1 (Nat.le_refl _)))).2
  have hcp5 := INV_cp hI (by omega)
  have hcp1 := hI.2.2.1.2.1
  have hcnt := hI.2.2.2.1
  have hlst := hI.2.2.2.2
  have hlb := mul_514 (a := Sn) (b := C) (by omega)
  have hftA := bdC_F hbdC
  have hrm := room_c (Sn := Sn) (AD := AD) (C := C) (c := cp) (cl := cl) (U := U) (by omega) hI.2.2.1.2.2.2.2.2 hlst.2.2.2.1 hU
  refine la_7_1 l C0 hk9 hL9 hS hl (rfl) ?_
  obtain ⟨hPc, hDc, hFc⟩ := zc_sub (wc := [_, _, _]) hP hD hS hA [0, 2, 3] rfl rfl
  refine zcall (st1 := [.int 0]) (va_runV (As := [.int (xs (6 * k9 + 1))]) (rest := []) ⟨hx, hb, hml, hown, hts⟩ (k_grow_x l dC dI cI cZ cF H.size x sh lw ro bq bp dq dp lv sl (nI bs) ul su (nI dn) fa ft FA (xs (6 * k9 + 1)) (h200f) (hbad)) (csV_243 hts rfl rfl ⟨Nat.le_of_ble_eq_true rfl, Nat.le_of_ble_eq_true rfl⟩) (zPV2 (q0 := 0) (ci := 8) hPc hDc hK3 hXN rfl rfl) rfl rfl hl.1 rfl (lv_room (Nat.le_of_ble_eq_true rfl)) dL_law_431 ⟨show 1000 + 1010 * k9 + cp + 4 * cl ≤ 600000 by omega, show 45000 + 8192 * cp + 512 * cl + U ≤ 7302250 by omega⟩) hS hFc hFc rfl (fun t H locs ht hB hk1 hS => ?_)
  obtain ⟨q_1, q_2, hP1, hD1⟩ := hB
  rw [ht] at hP1
  obtain ⟨hP, hD⟩ := zkQ (W2 := ((oc8 x (.ref sh) (.ref lw) (.ref ro) (.ref bq) (.ref bp) (.ref dq) (.ref dp) (.ref lv) (.ref sl) (nI dn) (nI bs) q_1 q_2) :: _ :: _ :: _ :: _ :: _ :: _ :: _ :: _ :: _ :: _ :: _ :: _ :: _ :: _ :: _ :: _ :: _ :: _ :: _ :: _ :: _ :: _ :: _ :: _ :: _ :: _ :: _ :: _ :: _ :: _ :: _ :: _ :: _ :: _ :: _ :: _ :: _ :: _ :: _ :: _ :: _ :: _ :: _ :: _ :: _ :: _ :: _ :: _ :: _ :: _ :: _ :: _ :: _ :: _ :: _ :: _ :: _ :: _ :: _ :: _ :: _ :: _ :: _ :: _ :: [])) hP hD [0, 2, 3] (1 :: 4 :: 5 :: 6 :: 7 :: 8 :: 9 :: 10 :: 11 :: 12 :: 13 :: 14 :: 15 :: 16 :: 17 :: 18 :: 19 :: 20 :: 21 :: 22 :: 23 :: 24 :: 25 :: 26 :: 27 :: 28 :: 29 :: 30 :: 31 :: 32 :: 33 :: 34 :: 35 :: 36 :: 37 :: 38 :: 39 :: 40 :: 41 :: 42 :: 43 :: 44 :: 45 :: 46 :: 47 :: 48 :: 49 :: 50 :: 51 :: 52 :: 53 :: 54 :: 55 :: 56 :: 57 :: 58 :: 59 :: 60 :: 61 :: 62 :: 63 :: 64 :: []) (1 :: 4 :: 5 :: 6 :: 7 :: 8 :: 9 :: 10 :: 11 :: 12 :: 13 :: 14 :: 15 :: 16 :: 17 :: 18 :: 19 :: 20 :: 21 :: 22 :: 23 :: 24 :: 25 :: 26 :: 27 :: 28 :: 29 :: 30 :: 31 :: 32 :: 33 :: 34 :: 35 :: 36 :: 37 :: 38 :: 39 :: 40 :: 41 :: 42 :: 43 :: 44 :: 45 :: 46 :: 47 :: 48 :: 49 :: 50 :: 51 :: 52 :: 53 :: 54 :: 55 :: 56 :: 57 :: 58 :: 59 :: 60 :: 61 :: 62 :: 63 :: 64 :: []) [0, 2, 3] (62 :: 0 :: 63 :: 64 :: 1 :: 2 :: 3 :: 4 :: 5 :: 6 :: 7 :: 8 :: 9 :: 10 :: 11 :: 12 :: 13 :: 14 :: 15 :: 16 :: 17 :: 18 :: 19 :: 20 :: 21 :: 22 :: 23 :: 24 :: 25 :: 26 :: 27 :: 28 :: 29 :: 30 :: 31 :: 32 :: 33 :: 34 :: 35 :: 36 :: 37 :: 38 :: 39 :: 40 :: 41 :: 42 :: 43 :: 44 :: 45 :: 46 :: 47 :: 48 :: 49 :: 50 :: 51 :: 52 :: 53 :: 54 :: 55 :: 56 :: 57 :: 58 :: 59 :: 60 :: 61 :: []) 65 rfl rfl rfl rfl rfl rfl rfl rfl rfl hk1 hFc hP1 hD1
  clear hk1 hPc hDc hFc hP1 hD1 ht
  refine lv_pop hx hb dL_law_434 rfl ?_
  refine la_7_2 l C0 hk9 hL9 hS hl (rfl) ?_
  obtain ⟨hPc, hDc, hFc⟩ := zc_sub (wc := [_]) hP hD hS hA [28] rfl rfl
  refine zcall (st1 := [.int 0]) (va_runV (As := [.int (xs (6 * k9 + 1))]) (rest := []) ⟨hx, hb, hml, hown, hts⟩ (k_M_grow_x l dC dI cI cZ cF H.size k0 a (upd I0 26 (nI ln)) J0 ft (xs (6 * k9 + 1)) (hm0) (h200f) (hbad)) (csV_244 hts rfl rfl ⟨Nat.le_of_ble_eq_true rfl, Nat.le_of_ble_eq_true rfl⟩) (zPV2 (q0 := 0) (ci := 9) hPc hDc hK3 hXN rfl rfl) rfl rfl hl.1 rfl (lv_room (Nat.le_of_ble_eq_true rfl)) dL_law_441 ⟨show 1000 + 1010 * k9 + cp + 4 * cl ≤ 600000 by omega, show 45000 + 8192 * cp + 512 * cl + U ≤ 7302250 by omega⟩) hS hFc hFc rfl (fun t H locs ht hB hk1 hS => ?_)
  obtain ⟨hP1, hD1⟩ := hB
  rw [ht] at hP1
  obtain ⟨hP, hD⟩ := zkQ (W2 := (_ :: _ :: _ :: _ :: _ :: _ :: _ :: _ :: _ :: _ :: _ :: _ :: _ :: _ :: _ :: _ :: _ :: _ :: _ :: _ :: _ :: _ :: _ :: _ :: _ :: _ :: _ :: _ :: (om k0 a (upd (upd (upd I0 14 1) 15 (I0 15)) 26 (nI ln)) J0) :: _ :: _ :: _ :: _ :: _ :: _ :: _ :: _ :: _ :: _ :: _ :: _ :: _ :: _ :: _ :: _ :: _ :: _ :: _ :: _ :: _ :: _ :: _ :: _ :: _ :: _ :: _ :: _ :: _ :: _ :: _ :: _ :: _ :: _ :: _ :: _ :: [])) hP hD [28] (0 :: 1 :: 2 :: 3 :: 4 :: 5 :: 6 :: 7 :: 8 :: 9 :: 10 :: 11 :: 12 :: 13 :: 14 :: 15 :: 16 :: 17 :: 18 :: 19 :: 20 :: 21 :: 22 :: 23 :: 24 :: 25 :: 26 :: 27 :: 29 :: 30 :: 31 :: 32 :: 33 :: 34 :: 35 :: 36 :: 37 :: 38 :: 39 :: 40 :: 41 :: 42 :: 43 :: 44 :: 45 :: 46 :: 47 :: 48 :: 49 :: 50 :: 51 :: 52 :: 53 :: 54 :: 55 :: 56 :: 57 :: 58 :: 59 :: 60 :: 61 :: 62 :: 63 :: 64 :: []) (0 :: 1 :: 2 :: 3 :: 4 :: 5 :: 6 :: 7 :: 8 :: 9 :: 10 :: 11 :: 12 :: 13 :: 14 :: 15 :: 16 :: 17 :: 18 :: 19 :: 20 :: 21 :: 22 :: 23 :: 24 :: 25 :: 26 :: 27 :: 29 :: 30 :: 31 :: 32 :: 33 :: 34 :: 35 :: 36 :: 37 :: 38 :: 39 :: 40 :: 41 :: 42 :: 43 :: 44 :: 45 :: 46 :: 47 :: 48 :: 49 :: 50 :: 51 :: 52 :: 53 :: 54 :: 55 :: 56 :: 57 :: 58 :: 59 :: 60 :: 61 :: 62 :: 63 :: 64 :: []) [28] (0 :: 1 :: 2 :: 3 :: 4 :: 5 :: 6 :: 7 :: 8 :: 9 :: 10 :: 11 :: 12 :: 13 :: 14 :: 15 :: 16 :: 17 :: 18 :: 19 :: 20 :: 21 :: 22 :: 23 :: 24 :: 25 :: 26 :: 27 :: 64 :: 28 :: 29 :: 30 :: 31 :: 32 :: 33 :: 34 :: 35 :: 36 :: 37 :: 38 :: 39 :: 40 :: 41 :: 42 :: 43 :: 44 :: 45 :: 46 :: 47 :: 48 :: 49 :: 50 :: 51 :: 52 :: 53 :: 54 :: 55 :: 56 :: 57 :: 58 :: 59 :: 60 :: 61 :: 62 :: 63 :: []) 65 rfl rfl rfl rfl rfl rfl rfl rfl rfl hk1 hFc hP1 hD1
  clear hk1 hPc hDc hFc hP1 hD1 ht
  refine lv_pop hx hb dL_law_444 rfl ?_
  refine lv_goto (tgt := 1081) hx hb dL_law_445 rfl ?_
  obtain ⟨hP9, hD9⟩ := zq_part (cx := (_ :: _ :: _ :: _ :: _ :: _ :: _ :: _ :: _ :: _ :: _ :: _ :: _ :: _ :: _ :: _ :: _ :: _ :: _ :: _ :: _ :: _ :: _ :: _ :: _ :: _ :: _ :: _ :: _ :: _ :: _ :: _ :: _ :: _ :: _ :: _ :: _ :: _ :: _ :: _ :: _ :: _ :: _ :: _ :: _ :: _ :: _ :: _ :: _ :: _ :: _ :: _ :: _ :: _ :: _ :: _ :: _ :: _ :: _ :: _ :: _ :: _ :: _ :: _ :: _ :: [])) hP hD (0 :: 1 :: 2 :: 3 :: 4 :: 5 :: 6 :: 7 :: 8 :: 9 :: 10 :: 11 :: 12 :: 13 :: 14 :: 15 :: 16 :: 17 :: 18 :: 19 :: 20 :: 21 :: 22 :: 23 :: 24 :: 25 :: 26 :: 27 :: 28 :: 29 :: 30 :: 31 :: 32 :: 33 :: 34 :: 35 :: 36 :: 37 :: 38 :: 39 :: 40 :: 41 :: 42 :: 43 :: 44 :: 45 :: 46 :: 47 :: 48 :: 49 :: 50 :: 51 :: 52 :: 53 :: 54 :: 55 :: 56 :: 57 :: 58 :: 59 :: 60 :: 61 :: 62 :: 63 :: 64 :: []) rfl rfl
  refine W.widen (k := 1000 + 1010 * (k9 + 1) + cp + 4 * cl) (n := 45000 + 8192 * cp + 512 * cl + U) (by omega) (by omega) ?_
  have e26 : upd (upd (upd (upd I0 14 1) 15 (I0 15)) 26 (nI ln)) 26 (nI ln) = (upd (upd (upd I0 14 1) 15 (I0 15)) 26 (nI ln)) := up_same rfl
  exact hnext cp cl U H locs ls (lawI_in L f FA ea nd nt nw q_1 q_2 mc9 rd rt rw P Q TX TY WX WY AR b1 b2 b3 b4 b5 b6 b7 b8 c1 c2 c3 c4 a1 a2 a3 a4 nv RA WT EX EY GR LV y1 y2 y3 y4 a (upd (upd (upd I0 14 1) 15 (I0 15)) 26 (nI ln)) J0 kd st gb it pa pb rk wd tw tn mn cx cy sa shs wh of9 we la lb lc ld P0 Q0 S0 ox oy mt wi ins T0 fl mk jx jy gr bs dn T ft Sn AD C ln FT cc W9 V VX VY (by rw [e26]; exact hP9) (by rw [e26]; exact hD9) (hB) (INV_K hI) ⟨hm0, hm19, hm20, hm21⟩ (by omega)) hS (lv_sub hl [0, 1, 2, 3] rfl)
set_option maxHeartbeats 4000000 in
set_option maxRecDepth 100000 in
theorem lc_square_x {p : Program} {e : Env} {s : State} {m : MethodId} {below : List Frame} {meth : Method} {c : Code} (l : Launch) {b L9 : Nat} {xs : Nat → Int32} (C0 : lw_At p s m meth c b L9 xs) (dC : Nat → ClassId) (dI : Nat → Nat → Nat) (cI cZ cF cO : ClassId) (e0 mi : Nat) (x sl sh fa lw dr dx dy tg tx ty wy wx wz br bo aa ro za zw zx zy zg bq bp dq dp lv k0 : Nat) (hK : va_K (dC, dI) classes (zTyO cI cZ cF cO) s) (hXL : zXL e0 mi (fun q : Nat => s.heap.size ≤ q) s) (L : List Nat) (f : Nat → va_E) (FA : Nat → Option Nat) (ea : Nat) (nd : Nat) (nt : Nat) (nw : Nat) (ul : Int32) (su : Int32) (mc9 : Int32) (rd : Int32) (rt : Int32) (rw : Int32) (P : Nat → Int32) (Q : Nat → Int32) (TX : Nat → Int32) (TY : Nat → Int32) (WX : Nat → Int32) (WY : Nat → Int32) (AR : Nat → Int32) (b1 : Int32) (b2 : Int32) (b3 : Int32) (b4 : Int32) (b5 : Int32) (b6 : Int32) (b7 : Int32) (b8 : Int32) (c1 : Int32) (c2 : Int32) (c3 : Int32) (c4 : Int32) (a1 : Int32) (a2 : Int32) (a3 : Int32) (a4 : Int32) (nv : Int32) (RA : Nat → Option Nat) (WT : Nat → Int32) (EX : Nat → Int32) (EY : Nat → Int32) (GR : Nat → Int32) (LV : Nat → Int32) (y1 : Int64) (y2 : Int64) (y3 : Int64) (y4 : Int64) (a : Nat → Nat) (I0 : Nat → Int32) (J0 : Nat → Int64) (kd : Nat → Int32) (st : Nat → Int32) (gb : Nat → Int32) (it : Nat → Int32) (pa : Nat → Int32) (pb : Nat → Int32) (rk : Nat → Int32) (wd : Nat → Int32) (tw : Nat → Int32) (tn : Nat → Int32) (mn : Nat → Int32) (cx : Nat → Int32) (cy : Nat → Int32) (sa : Nat → Int32) (shs : Nat → Int32) (wh : Nat → Int32) (of9 : Nat → Int32) (we : Nat → Int32) (la : Nat → Int32) (lb : Nat → Int32) (lc : Nat → Int32) (ld : Nat → Int32) (P0 : Nat → Int32) (Q0 : Nat → Int32) (S0 : Nat → Int32) (ox : Nat → Int32) (oy : Nat → Int32) (mt : Nat → Int32) (wi : Nat → Int32) (ins : Nat → Int32) (T0 : Nat → Int32) (fl : Nat → Int32) (mk : Nat → Int32) (jx : Nat → Int32) (jy : Nat → Int32) (gr : Nat → Int32) (bs : Nat) (dn : Nat) (T : Nat) (ft : Nat) (Sn : Nat) (AD : Nat) (C : Nat) (ln : Nat) (FT : Nat → Nat) (cc : Nat → Nat) (W9 : Nat → Nat) (V : Nat → Nat → Nat → Int32) (VX : Nat → Nat → Int32) (VY : Nat → Nat → Int32) (cp cl U k9 : Nat) (hk9 : 6 * k9 + 6 ≤ L9) (hL9 : L9 ≤ 3072) {H : Heap} {locs : List Loc} {ls : Array Slot} (hPD : zPD (dC, dI) classes (fun q : Nat => s.heap.size ≤ q) (((oc8 x (.ref sh) (.ref lw) (.ref ro) (.ref bq) (.ref bp) (.ref dq) (.ref dp) (.ref lv) (.ref sl) (nI dn) (nI bs) ul su) :: (oc10 sl mc9 (.ref ea) (nI T)) :: (oc7 sh (.ref fa) (nI ft)) :: (oq fa cF 200 FA) :: (oc3 lw (.ref dr) (.ref tg) (.ref wy) (.ref br) (.ref bo) (.ref aa)) :: (oc6 dr (.ref dx) (.ref dy) (nI nd) rd) :: (oa dx cI 40 P) :: (oa dy cI 40 Q) :: (oc6 tg (.ref tx) (.ref ty) (nI nt) rt) :: (oa tx cI 3 TX) :: (oa ty cI 3 TY) :: (oc6 wy (.ref wx) (.ref wz) (nI nw) rw) :: (oa wx cI 2 WX) :: (oa wz cI 2 WY) :: (oc0 br b1 b2 b3 b4) :: (oc0 bo b5 b6 b7 b8) :: (oa aa cI 40 AR) :: (oc5 ro (.ref za) (.ref zw) (.ref zx) (.ref zy) (.ref zg) nv) :: (oq za cF 200 RA) :: (oa zw cI 200 WT) :: (oa zx cI 400 EX) :: (oa zy cI 400 EY) :: (oa zg cI 400 GR) :: (oc0 bq c1 c2 c3 c4) :: (oc0 bp a1 a2 a3 a4) :: (oc2 dq y1 y2) :: (oc2 dp y3 y4) :: (oa lv cZ 200 LV) :: (om k0 a (upd I0 26 (nI ln)) J0) :: (oa (a 1) cI 201 kd) :: (oa (a 5) cI 201 st) :: (oa (a 7) cI 201 gb) :: (oa (a 10) cI 201 it) :: (oa (a 8) cI 201 pa) :: (oa (a 9) cI 201 pb) :: (oa (a 2) cI 201 rk) :: (oa (a 3) cI 201 wd) :: (oa (a 4) cI 201 tw) :: (oa (a 6) cZ 201 tn) :: (oa (a 11) cI 201 mn) :: (oa (a 12) cI 8040 cx) :: (oa (a 13) cI 8040 cy) :: (oa (a 27) cI 516 sa) :: (oa (a 28) cI (4096 * cp) shs) :: (oa (a 16) cI 514 wh) :: (oa (a 17) cI 514 of9) :: (oa (a 18) cI 514 we) :: (oa (a 22) cI (64 * cl) la) :: (oa (a 23) cI (64 * cl) lb) :: (oa (a 24) cI (64 * cl) lc) :: (oa (a 25) cI (64 * cl) ld) :: (oa (a 29) cI 42 P0) :: (oa (a 30) cI 42 Q0) :: (oa (a 32) cI 8 S0) :: (oa (a 33) cI 42 ox) :: (oa (a 34) cI 42 oy) :: (oa (a 37) cZ 201 mt) :: (oa (a 38) cZ 201 wi) :: (oa (a 39) cZ 8040 ins) :: (oa (a 40) cI 6 T0) :: (oa (a 43) cZ 40 fl) :: (oa (a 50) cZ 201 mk) :: (oa (a 51) cI 402 jx) :: (oa (a 52) cI 402 jy) :: (oa (a 53) cI 402 gr) :: []) ++ va_pl L f) H) (hS : va_S (fun q : Nat => s.heap.size ≤ q) s.heap H locs) (hl : lv_has ls 4 [(3, .int (nI (6 * k9))), (2, .ref k0), (1, .ref x), (0, .ref b)]) (hB : shB cI cO L f e0 FA ea bs dn T ft FT V VX VY tn rk wd tw pa pb wh of9 we kd st gb it mn cx cy) (hI : INV k9 Sn AD C cc W9 bs T ft cp ln cl FT V VX VY tn rk wd tw pa pb kd st it mn cx cy sa shs lb lc) (hM : I0 0 = nI ft ∧ I0 19 = nI dn ∧ I0 20 = nI (T - dn) ∧ I0 21 = nI bs) (hU : U ≤ Sn * (28 * (AD + C) + 1000) + 200 * (AD + C)) (hbad : ¬ (0 ≤ (xs (6 * k9 + 1)).toInt ∧ (xs (6 * k9 + 1)).toInt < ((ft : Nat) : Int))) (hnext : ∀ (cp1 cl1 U1 : Nat) (H : Heap) (locs : List Loc) (ls : Array Slot), lawI s dC dI cI cZ cF cO e0 mi x sl sh fa lw dr dx dy tg tx ty wy wx wz br bo aa ro za zw zx zy zg bq bp dq dp lv k0 (k9 + 1) cp1 cl1 U1 H → va_S (fun q : Nat => s.heap.size ≤ q) s.heap H locs → lv_has ls 4 [(3, .int (nI (6 * k9))), (2, .ref k0), (1, .ref x), (0, .ref b)] → W p l e room_1 s m #[Value.ref b] below meth c H locs (1000 + 1010 * (k9 + 1) + cp1 + 4 * cl1) (45000 + 8192 * cp1 + 512 * cl1 + U1) (lw_Z below #[Value.ref b] s) (F0 m 1081 ls [])) : W p l e room_1 s m #[Value.ref b] below meth c H locs (1000 + 1010 * k9 + cp + 4 * cl) (45000 + 8192 * cp + 512 * cl + U) (lw_Z below #[Value.ref b] s) (F0 m 448 ls []) := by
  obtain ⟨hP, hD⟩ := hPD
  obtain ⟨hx, hb, hr, hml, hown, hts1, hX, hbl, hlocks, hgv⟩ := id C0
  have hts : ∀ w9 ∈ ws0, w9.before #[Value.ref b] s = true := fun w9 h => hts1 w9 (List.mem_filter.mp h).1
  have hA : ∀ q : Nat, s.heap.size ≤ q → (fun q : Nat => s.heap.size ≤ q) q := fun _ h => h
  have hbA : ¬ (fun q : Nat => s.heap.size ≤ q) b := Nat.not_le.mpr hbl
  have hXN := hXL.1
  have hK3 := hK.sub [0, 1, 2] rfl
  obtain ⟨hm0, hm19, hm20, hm21⟩ := hM
  have hpo := shB_po hB
  have hK512 : k9 + 1 ≤ 512 := (by omega)
  have hwfS := hI.1.1
  have hbdC := hI.1.2.2.1
  have hT0 := hI.1.2.2.2
  have hd9 := hpo.1
  have h200t : ∀ t, bs ≤ t → t ≤ T → FT t ≤ 200 := fun t t1 t2 => Nat.le_trans (hpo.2.1 t T t1 t2 (Nat.le_refl _)) hd9.2.2.2.2
  have h200f : ft ≤ 200 := (by rw [hd9.2.2.2.1]; exact h200t dn hd9.1 hd9.2.1)
  have hrkA : ∀ q, lvF ft st tn q → 0 ≤ (rk q).toInt ∧ (rk q).toInt ≤ 9 := fun q hq => (hI.1.2.1 q (Nat.lt_of_lt_of_le hq.1 (by rw [hd9.2.2.2.1]; exact hpo.2.1 dn T hd9.1 hd9.2.1 (Nat.le_refl _)))).1
  have hwdA : ∀ q, q < ft → 0 ≤ (wd q).toInt ∧ (wd q).toInt ≤ 100 := fun q hq => (hI.1.2.1 q (Nat.lt_of_lt_of_le hq (by rw [hd9.2.2.2.1]; exact hpo.2.1 dn T hd9.1 hd9.2.1 (Nat.le_refl _)))).2
  have hcp5 := INV_cp hI (by omega)
  have hcp1 := hI.2.2.1.2.1
  have hcnt := hI.2.2.2.1
  have hlst := hI.2.2.2.2
  have hlb := mul_514 (a := Sn) (b := C) (by omega)
  have hftA := bdC_F hbdC
  have hrm := room_c (Sn := Sn) (AD := AD) (C := C) (c := cp) (cl := cl) (U := U) (by omega) hI.2.2.1.2.2.2.2.2 hlst.2.2.2.1 hU
  refine la_8_1 l C0 hk9 hL9 hS hl (rfl) (rfl) ?_
  obtain ⟨hPc, hDc, hFc⟩ := zc_sub (wc := [_, _, _]) hP hD hS hA [0, 2, 3] rfl rfl
  refine zcall (st1 := [.int 0]) (va_runV (As := [.int (xs (6 * k9 + 1)), .int (xs (6 * k9 + 2))]) (rest := []) ⟨hx, hb, hml, hown, hts⟩ (k_square_x l dC dI cI cZ cF H.size x sh lw ro bq bp dq dp lv sl (nI bs) ul su (nI dn) fa ft FA (xs (6 * k9 + 1)) (xs (6 * k9 + 2)) (h200f) (hbad)) (csV_245 hts rfl rfl ⟨Nat.le_of_ble_eq_true rfl, Nat.le_of_ble_eq_true rfl⟩) (zPV2 (q0 := 0) (ci := 8) hPc hDc hK3 hXN rfl rfl) rfl rfl hl.1 rfl (lv_room (Nat.le_of_ble_eq_true rfl)) dL_law_459 ⟨show 1000 + 1010 * k9 + cp + 4 * cl ≤ 600000 by omega, show 45000 + 8192 * cp + 512 * cl + U ≤ 7302250 by omega⟩) hS hFc hFc rfl (fun t H locs ht hB hk1 hS => ?_)
  obtain ⟨q_1, q_2, hP1, hD1⟩ := hB
  rw [ht] at hP1
  obtain ⟨hP, hD⟩ := zkQ (W2 := ((oc8 x (.ref sh) (.ref lw) (.ref ro) (.ref bq) (.ref bp) (.ref dq) (.ref dp) (.ref lv) (.ref sl) (nI dn) (nI bs) q_1 q_2) :: _ :: _ :: _ :: _ :: _ :: _ :: _ :: _ :: _ :: _ :: _ :: _ :: _ :: _ :: _ :: _ :: _ :: _ :: _ :: _ :: _ :: _ :: _ :: _ :: _ :: _ :: _ :: _ :: _ :: _ :: _ :: _ :: _ :: _ :: _ :: _ :: _ :: _ :: _ :: _ :: _ :: _ :: _ :: _ :: _ :: _ :: _ :: _ :: _ :: _ :: _ :: _ :: _ :: _ :: _ :: _ :: _ :: _ :: _ :: _ :: _ :: _ :: _ :: _ :: [])) hP hD [0, 2, 3] (1 :: 4 :: 5 :: 6 :: 7 :: 8 :: 9 :: 10 :: 11 :: 12 :: 13 :: 14 :: 15 :: 16 :: 17 :: 18 :: 19 :: 20 :: 21 :: 22 :: 23 :: 24 :: 25 :: 26 :: 27 :: 28 :: 29 :: 30 :: 31 :: 32 :: 33 :: 34 :: 35 :: 36 :: 37 :: 38 :: 39 :: 40 :: 41 :: 42 :: 43 :: 44 :: 45 :: 46 :: 47 :: 48 :: 49 :: 50 :: 51 :: 52 :: 53 :: 54 :: 55 :: 56 :: 57 :: 58 :: 59 :: 60 :: 61 :: 62 :: 63 :: 64 :: []) (1 :: 4 :: 5 :: 6 :: 7 :: 8 :: 9 :: 10 :: 11 :: 12 :: 13 :: 14 :: 15 :: 16 :: 17 :: 18 :: 19 :: 20 :: 21 :: 22 :: 23 :: 24 :: 25 :: 26 :: 27 :: 28 :: 29 :: 30 :: 31 :: 32 :: 33 :: 34 :: 35 :: 36 :: 37 :: 38 :: 39 :: 40 :: 41 :: 42 :: 43 :: 44 :: 45 :: 46 :: 47 :: 48 :: 49 :: 50 :: 51 :: 52 :: 53 :: 54 :: 55 :: 56 :: 57 :: 58 :: 59 :: 60 :: 61 :: 62 :: 63 :: 64 :: []) [0, 2, 3] (62 :: 0 :: 63 :: 64 :: 1 :: 2 :: 3 :: 4 :: 5 :: 6 :: 7 :: 8 :: 9 :: 10 :: 11 :: 12 :: 13 :: 14 :: 15 :: 16 :: 17 :: 18 :: 19 :: 20 :: 21 :: 22 :: 23 :: 24 :: 25 :: 26 :: 27 :: 28 :: 29 :: 30 :: 31 :: 32 :: 33 :: 34 :: 35 :: 36 :: 37 :: 38 :: 39 :: 40 :: 41 :: 42 :: 43 :: 44 :: 45 :: 46 :: 47 :: 48 :: 49 :: 50 :: 51 :: 52 :: 53 :: 54 :: 55 :: 56 :: 57 :: 58 :: 59 :: 60 :: 61 :: []) 65 rfl rfl rfl rfl rfl rfl rfl rfl rfl hk1 hFc hP1 hD1
  clear hk1 hPc hDc hFc hP1 hD1 ht
  refine lv_pop hx hb dL_law_462 rfl ?_
  refine la_8_2 l C0 hk9 hL9 hS hl (rfl) (rfl) ?_
  obtain ⟨hPc, hDc, hFc⟩ := zc_sub (wc := [_]) hP hD hS hA [28] rfl rfl
  refine zcall (st1 := [.int 0]) (va_runV (As := [.int (xs (6 * k9 + 1)), .int (xs (6 * k9 + 2))]) (rest := []) ⟨hx, hb, hml, hown, hts⟩ (k_M_square_x l dC dI cI cZ cF H.size k0 a (upd I0 26 (nI ln)) J0 ft (xs (6 * k9 + 1)) (xs (6 * k9 + 2)) (hm0) (h200f) (hbad)) (csV_246 hts rfl rfl ⟨Nat.le_of_ble_eq_true rfl, Nat.le_of_ble_eq_true rfl⟩) (zPV2 (q0 := 0) (ci := 9) hPc hDc hK3 hXN rfl rfl) rfl rfl hl.1 rfl (lv_room (Nat.le_of_ble_eq_true rfl)) dL_law_474 ⟨show 1000 + 1010 * k9 + cp + 4 * cl ≤ 600000 by omega, show 45000 + 8192 * cp + 512 * cl + U ≤ 7302250 by omega⟩) hS hFc hFc rfl (fun t H locs ht hB hk1 hS => ?_)
  obtain ⟨hP1, hD1⟩ := hB
  rw [ht] at hP1
  obtain ⟨hP, hD⟩ := zkQ (W2 := (_ :: _ :: _ :: _ :: _ :: _ :: _ :: _ :: _ :: _ :: _ :: _ :: _ :: _ :: _ :: _ :: _ :: _ :: _ :: _ :: _ :: _ :: _ :: _ :: _ :: _ :: _ :: _ :: (om k0 a (upd (upd (upd I0 14 1) 15 (I0 15)) 26 (nI ln)) J0) :: _ :: _ :: _ :: _ :: _ :: _ :: _ :: _ :: _ :: _ :: _ :: _ :: _ :: _ :: _ :: _ :: _ :: _ :: _ :: _ :: _ :: _ :: _ :: _ :: _ :: _ :: _ :: _ :: _ :: _ :: _ :: _ :: _ :: _ :: _ :: _ :: [])) hP hD [28] (0 :: 1 :: 2 :: 3 :: 4 :: 5 :: 6 :: 7 :: 8 :: 9 :: 10 :: 11 :: 12 :: 13 :: 14 :: 15 :: 16 :: 17 :: 18 :: 19 :: 20 :: 21 :: 22 :: 23 :: 24 :: 25 :: 26 :: 27 :: 29 :: 30 :: 31 :: 32 :: 33 :: 34 :: 35 :: 36 :: 37 :: 38 :: 39 :: 40 :: 41 :: 42 :: 43 :: 44 :: 45 :: 46 :: 47 :: 48 :: 49 :: 50 :: 51 :: 52 :: 53 :: 54 :: 55 :: 56 :: 57 :: 58 :: 59 :: 60 :: 61 :: 62 :: 63 :: 64 :: []) (0 :: 1 :: 2 :: 3 :: 4 :: 5 :: 6 :: 7 :: 8 :: 9 :: 10 :: 11 :: 12 :: 13 :: 14 :: 15 :: 16 :: 17 :: 18 :: 19 :: 20 :: 21 :: 22 :: 23 :: 24 :: 25 :: 26 :: 27 :: 29 :: 30 :: 31 :: 32 :: 33 :: 34 :: 35 :: 36 :: 37 :: 38 :: 39 :: 40 :: 41 :: 42 :: 43 :: 44 :: 45 :: 46 :: 47 :: 48 :: 49 :: 50 :: 51 :: 52 :: 53 :: 54 :: 55 :: 56 :: 57 :: 58 :: 59 :: 60 :: 61 :: 62 :: 63 :: 64 :: []) [28] (0 :: 1 :: 2 :: 3 :: 4 :: 5 :: 6 :: 7 :: 8 :: 9 :: 10 :: 11 :: 12 :: 13 :: 14 :: 15 :: 16 :: 17 :: 18 :: 19 :: 20 :: 21 :: 22 :: 23 :: 24 :: 25 :: 26 :: 27 :: 64 :: 28 :: 29 :: 30 :: 31 :: 32 :: 33 :: 34 :: 35 :: 36 :: 37 :: 38 :: 39 :: 40 :: 41 :: 42 :: 43 :: 44 :: 45 :: 46 :: 47 :: 48 :: 49 :: 50 :: 51 :: 52 :: 53 :: 54 :: 55 :: 56 :: 57 :: 58 :: 59 :: 60 :: 61 :: 62 :: 63 :: []) 65 rfl rfl rfl rfl rfl rfl rfl rfl rfl hk1 hFc hP1 hD1
  clear hk1 hPc hDc hFc hP1 hD1 ht
  refine lv_pop hx hb dL_law_477 rfl ?_
  refine lv_goto (tgt := 1081) hx hb dL_law_478 rfl ?_
  obtain ⟨hP9, hD9⟩ := zq_part (cx := (_ :: _ :: _ :: _ :: _ :: _ :: _ :: _ :: _ :: _ :: _ :: _ :: _ :: _ :: _ :: _ :: _ :: _ :: _ :: _ :: _ :: _ :: _ :: _ :: _ :: _ :: _ :: _ :: _ :: _ :: _ :: _ :: _ :: _ :: _ :: _ :: _ :: _ :: _ :: _ :: _ :: _ :: _ :: _ :: _ :: _ :: _ :: _ :: _ :: _ :: _ :: _ :: _ :: _ :: _ :: _ :: _ :: _ :: _ :: _ :: _ :: _ :: _ :: _ :: _ :: [])) hP hD (0 :: 1 :: 2 :: 3 :: 4 :: 5 :: 6 :: 7 :: 8 :: 9 :: 10 :: 11 :: 12 :: 13 :: 14 :: 15 :: 16 :: 17 :: 18 :: 19 :: 20 :: 21 :: 22 :: 23 :: 24 :: 25 :: 26 :: 27 :: 28 :: 29 :: 30 :: 31 :: 32 :: 33 :: 34 :: 35 :: 36 :: 37 :: 38 :: 39 :: 40 :: 41 :: 42 :: 43 :: 44 :: 45 :: 46 :: 47 :: 48 :: 49 :: 50 :: 51 :: 52 :: 53 :: 54 :: 55 :: 56 :: 57 :: 58 :: 59 :: 60 :: 61 :: 62 :: 63 :: 64 :: []) rfl rfl
  refine W.widen (k := 1000 + 1010 * (k9 + 1) + cp + 4 * cl) (n := 45000 + 8192 * cp + 512 * cl + U) (by omega) (by omega) ?_
  have e26 : upd (upd (upd (upd I0 14 1) 15 (I0 15)) 26 (nI ln)) 26 (nI ln) = (upd (upd (upd I0 14 1) 15 (I0 15)) 26 (nI ln)) := up_same rfl
  exact hnext cp cl U H locs ls (lawI_in L f FA ea nd nt nw q_1 q_2 mc9 rd rt rw P Q TX TY WX WY AR b1 b2 b3 b4 b5 b6 b7 b8 c1 c2 c3 c4 a1 a2 a3 a4 nv RA WT EX EY GR LV y1 y2 y3 y4 a (upd (upd (upd I0 14 1) 15 (I0 15)) 26 (nI ln)) J0 kd st gb it pa pb rk wd tw tn mn cx cy sa shs wh of9 we la lb lc ld P0 Q0 S0 ox oy mt wi ins T0 fl mk jx jy gr bs dn T ft Sn AD C ln FT cc W9 V VX VY (by rw [e26]; exact hP9) (by rw [e26]; exact hD9) (hB) (INV_K hI) ⟨hm0, hm19, hm20, hm21⟩ (by omega)) hS (lv_sub hl [0, 1, 2, 3] rfl)
set_option maxHeartbeats 4000000 in
set_option maxRecDepth 100000 in
theorem lc_drop_x {p : Program} {e : Env} {s : State} {m : MethodId} {below : List Frame} {meth : Method} {c : Code} (l : Launch) {b L9 : Nat} {xs : Nat → Int32} (C0 : lw_At p s m meth c b L9 xs) (dC : Nat → ClassId) (dI : Nat → Nat → Nat) (cI cZ cF cO : ClassId) (e0 mi : Nat) (x sl sh fa lw dr dx dy tg tx ty wy wx wz br bo aa ro za zw zx zy zg bq bp dq dp lv k0 : Nat) (hK : va_K (dC, dI) classes (zTyO cI cZ cF cO) s) (hXL : zXL e0 mi (fun q : Nat => s.heap.size ≤ q) s) (L : List Nat) (f : Nat → va_E) (FA : Nat → Option Nat) (ea : Nat) (nd : Nat) (nt : Nat) (nw : Nat) (ul : Int32) (su : Int32) (mc9 : Int32) (rd : Int32) (rt : Int32) (rw : Int32) (P : Nat → Int32) (Q : Nat → Int32) (TX : Nat → Int32) (TY : Nat → Int32) (WX : Nat → Int32) (WY : Nat → Int32) (AR : Nat → Int32) (b1 : Int32) (b2 : Int32) (b3 : Int32) (b4 : Int32) (b5 : Int32) (b6 : Int32) (b7 : Int32) (b8 : Int32) (c1 : Int32) (c2 : Int32) (c3 : Int32) (c4 : Int32) (a1 : Int32) (a2 : Int32) (a3 : Int32) (a4 : Int32) (nv : Int32) (RA : Nat → Option Nat) (WT : Nat → Int32) (EX : Nat → Int32) (EY : Nat → Int32) (GR : Nat → Int32) (LV : Nat → Int32) (y1 : Int64) (y2 : Int64) (y3 : Int64) (y4 : Int64) (a : Nat → Nat) (I0 : Nat → Int32) (J0 : Nat → Int64) (kd : Nat → Int32) (st : Nat → Int32) (gb : Nat → Int32) (it : Nat → Int32) (pa : Nat → Int32) (pb : Nat → Int32) (rk : Nat → Int32) (wd : Nat → Int32) (tw : Nat → Int32) (tn : Nat → Int32) (mn : Nat → Int32) (cx : Nat → Int32) (cy : Nat → Int32) (sa : Nat → Int32) (shs : Nat → Int32) (wh : Nat → Int32) (of9 : Nat → Int32) (we : Nat → Int32) (la : Nat → Int32) (lb : Nat → Int32) (lc : Nat → Int32) (ld : Nat → Int32) (P0 : Nat → Int32) (Q0 : Nat → Int32) (S0 : Nat → Int32) (ox : Nat → Int32) (oy : Nat → Int32) (mt : Nat → Int32) (wi : Nat → Int32) (ins : Nat → Int32) (T0 : Nat → Int32) (fl : Nat → Int32) (mk : Nat → Int32) (jx : Nat → Int32) (jy : Nat → Int32) (gr : Nat → Int32) (bs : Nat) (dn : Nat) (T : Nat) (ft : Nat) (Sn : Nat) (AD : Nat) (C : Nat) (ln : Nat) (FT : Nat → Nat) (cc : Nat → Nat) (W9 : Nat → Nat) (V : Nat → Nat → Nat → Int32) (VX : Nat → Nat → Int32) (VY : Nat → Nat → Int32) (cp cl U k9 : Nat) (hk9 : 6 * k9 + 6 ≤ L9) (hL9 : L9 ≤ 3072) {H : Heap} {locs : List Loc} {ls : Array Slot} (hPD : zPD (dC, dI) classes (fun q : Nat => s.heap.size ≤ q) (((oc8 x (.ref sh) (.ref lw) (.ref ro) (.ref bq) (.ref bp) (.ref dq) (.ref dp) (.ref lv) (.ref sl) (nI dn) (nI bs) ul su) :: (oc10 sl mc9 (.ref ea) (nI T)) :: (oc7 sh (.ref fa) (nI ft)) :: (oq fa cF 200 FA) :: (oc3 lw (.ref dr) (.ref tg) (.ref wy) (.ref br) (.ref bo) (.ref aa)) :: (oc6 dr (.ref dx) (.ref dy) (nI nd) rd) :: (oa dx cI 40 P) :: (oa dy cI 40 Q) :: (oc6 tg (.ref tx) (.ref ty) (nI nt) rt) :: (oa tx cI 3 TX) :: (oa ty cI 3 TY) :: (oc6 wy (.ref wx) (.ref wz) (nI nw) rw) :: (oa wx cI 2 WX) :: (oa wz cI 2 WY) :: (oc0 br b1 b2 b3 b4) :: (oc0 bo b5 b6 b7 b8) :: (oa aa cI 40 AR) :: (oc5 ro (.ref za) (.ref zw) (.ref zx) (.ref zy) (.ref zg) nv) :: (oq za cF 200 RA) :: (oa zw cI 200 WT) :: (oa zx cI 400 EX) :: (oa zy cI 400 EY) :: (oa zg cI 400 GR) :: (oc0 bq c1 c2 c3 c4) :: (oc0 bp a1 a2 a3 a4) :: (oc2 dq y1 y2) :: (oc2 dp y3 y4) :: (oa lv cZ 200 LV) :: (om k0 a (upd I0 26 (nI ln)) J0) :: (oa (a 1) cI 201 kd) :: (oa (a 5) cI 201 st) :: (oa (a 7) cI 201 gb) :: (oa (a 10) cI 201 it) :: (oa (a 8) cI 201 pa) :: (oa (a 9) cI 201 pb) :: (oa (a 2) cI 201 rk) :: (oa (a 3) cI 201 wd) :: (oa (a 4) cI 201 tw) :: (oa (a 6) cZ 201 tn) :: (oa (a 11) cI 201 mn) :: (oa (a 12) cI 8040 cx) :: (oa (a 13) cI 8040 cy) :: (oa (a 27) cI 516 sa) :: (oa (a 28) cI (4096 * cp) shs) :: (oa (a 16) cI 514 wh) :: (oa (a 17) cI 514 of9) :: (oa (a 18) cI 514 we) :: (oa (a 22) cI (64 * cl) la) :: (oa (a 23) cI (64 * cl) lb) :: (oa (a 24) cI (64 * cl) lc) :: (oa (a 25) cI (64 * cl) ld) :: (oa (a 29) cI 42 P0) :: (oa (a 30) cI 42 Q0) :: (oa (a 32) cI 8 S0) :: (oa (a 33) cI 42 ox) :: (oa (a 34) cI 42 oy) :: (oa (a 37) cZ 201 mt) :: (oa (a 38) cZ 201 wi) :: (oa (a 39) cZ 8040 ins) :: (oa (a 40) cI 6 T0) :: (oa (a 43) cZ 40 fl) :: (oa (a 50) cZ 201 mk) :: (oa (a 51) cI 402 jx) :: (oa (a 52) cI 402 jy) :: (oa (a 53) cI 402 gr) :: []) ++ va_pl L f) H) (hS : va_S (fun q : Nat => s.heap.size ≤ q) s.heap H locs) (hl : lv_has ls 4 [(3, .int (nI (6 * k9))), (2, .ref k0), (1, .ref x), (0, .ref b)]) (hB : shB cI cO L f e0 FA ea bs dn T ft FT V VX VY tn rk wd tw pa pb wh of9 we kd st gb it mn cx cy) (hI : INV k9 Sn AD C cc W9 bs T ft cp ln cl FT V VX VY tn rk wd tw pa pb kd st it mn cx cy sa shs lb lc) (hM : I0 0 = nI ft ∧ I0 19 = nI dn ∧ I0 20 = nI (T - dn) ∧ I0 21 = nI bs) (hU : U ≤ Sn * (28 * (AD + C) + 1000) + 200 * (AD + C)) (hbad : ¬ (0 ≤ (xs (6 * k9 + 1)).toInt ∧ (xs (6 * k9 + 1)).toInt < ((ft : Nat) : Int))) (hnext : ∀ (cp1 cl1 U1 : Nat) (H : Heap) (locs : List Loc) (ls : Array Slot), lawI s dC dI cI cZ cF cO e0 mi x sl sh fa lw dr dx dy tg tx ty wy wx wz br bo aa ro za zw zx zy zg bq bp dq dp lv k0 (k9 + 1) cp1 cl1 U1 H → va_S (fun q : Nat => s.heap.size ≤ q) s.heap H locs → lv_has ls 4 [(3, .int (nI (6 * k9))), (2, .ref k0), (1, .ref x), (0, .ref b)] → W p l e room_1 s m #[Value.ref b] below meth c H locs (1000 + 1010 * (k9 + 1) + cp1 + 4 * cl1) (45000 + 8192 * cp1 + 512 * cl1 + U1) (lw_Z below #[Value.ref b] s) (F0 m 1081 ls [])) : W p l e room_1 s m #[Value.ref b] below meth c H locs (1000 + 1010 * k9 + cp + 4 * cl) (45000 + 8192 * cp + 512 * cl + U) (lw_Z below #[Value.ref b] s) (F0 m 524 ls []) := by
  obtain ⟨hP, hD⟩ := hPD
  obtain ⟨hx, hb, hr, hml, hown, hts1, hX, hbl, hlocks, hgv⟩ := id C0
  have hts : ∀ w9 ∈ ws0, w9.before #[Value.ref b] s = true := fun w9 h => hts1 w9 (List.mem_filter.mp h).1
  have hA : ∀ q : Nat, s.heap.size ≤ q → (fun q : Nat => s.heap.size ≤ q) q := fun _ h => h
  have hbA : ¬ (fun q : Nat => s.heap.size ≤ q) b := Nat.not_le.mpr hbl
  have hXN := hXL.1
  have hK3 := hK.sub [0, 1, 2] rfl
  obtain ⟨hm0, hm19, hm20, hm21⟩ := hM
  have hpo := shB_po hB
  have hK512 : k9 + 1 ≤ 512 := (by omega)
  have hwfS := hI.1.1
  have hbdC := hI.1.2.2.1
  have hT0 := hI.1.2.2.2
  have hd9 := hpo.1
  have h200t : ∀ t, bs ≤ t → t ≤ T → FT t ≤ 200 := fun t t1 t2 => Nat.le_trans (hpo.2.1 t T t1 t2 (Nat.le_refl _)) hd9.2.2.2.2
  have h200f : ft ≤ 200 := (by rw [hd9.2.2.2.1]; exact h200t dn hd9.1 hd9.2.1)
  have hrkA : ∀ q, lvF ft st tn q → 0 ≤ (rk q).toInt ∧ (rk q).toInt ≤ 9 := fun q hq => (hI.1.2.1 q (Nat.lt_of_lt_of_le hq.1 (by rw [hd9.2.2.2.1]; exact hpo.2.1 dn T hd9.1 hd9.2.1 (Nat.le_refl _)))).1
  have hwdA : ∀ q, q < ft → 0 ≤ (wd q).toInt ∧ (wd q).toInt ≤ 100 := fun q hq => (hI.1.2.1 q (Nat.lt_of_lt_of_le hq (by rw [hd9.2.2.2.1]; exact hpo.2.1 dn T hd9.1 hd9.2.1 (Nat.le_refl _)))).2
  have hcp5 := INV_cp hI (by omega)
  have hcp1 := hI.2.2.1.2.1
  have hcnt := hI.2.2.2.1
  have hlst := hI.2.2.2.2
  have hlb := mul_514 (a := Sn) (b := C) (by omega)
  have hftA := bdC_F hbdC
  have hrm := room_c (Sn := Sn) (AD := AD) (C := C) (c := cp) (cl := cl) (U := U) (by omega) hI.2.2.1.2.2.2.2.2 hlst.2.2.2.1 hU
  refine la_10_1 l C0 hk9 hL9 hS hl (rfl) ?_
  obtain ⟨hPc, hDc, hFc⟩ := zc_sub (wc := [_, _, _]) hP hD hS hA [0, 2, 3] rfl rfl
  refine zcall (st1 := [.int 0]) (va_runV (As := [.int (xs (6 * k9 + 1))]) (rest := []) ⟨hx, hb, hml, hown, hts⟩ (k_drop_x l dC dI cI cZ cF H.size x sh lw ro bq bp dq dp lv sl (nI bs) ul su (nI dn) fa ft FA (xs (6 * k9 + 1)) (h200f) (hbad)) (csV_247 hts rfl rfl ⟨Nat.le_of_ble_eq_true rfl, Nat.le_of_ble_eq_true rfl⟩) (zPV2 (q0 := 0) (ci := 8) hPc hDc hK3 hXN rfl rfl) rfl rfl hl.1 rfl (lv_room (Nat.le_of_ble_eq_true rfl)) dL_law_530 ⟨show 1000 + 1010 * k9 + cp + 4 * cl ≤ 600000 by omega, show 45000 + 8192 * cp + 512 * cl + U ≤ 7302250 by omega⟩) hS hFc hFc rfl (fun t H locs ht hB hk1 hS => ?_)
  obtain ⟨q_1, q_2, hP1, hD1⟩ := hB
  rw [ht] at hP1
  obtain ⟨hP, hD⟩ := zkQ (W2 := ((oc8 x (.ref sh) (.ref lw) (.ref ro) (.ref bq) (.ref bp) (.ref dq) (.ref dp) (.ref lv) (.ref sl) (nI dn) (nI bs) q_1 q_2) :: _ :: _ :: _ :: _ :: _ :: _ :: _ :: _ :: _ :: _ :: _ :: _ :: _ :: _ :: _ :: _ :: _ :: _ :: _ :: _ :: _ :: _ :: _ :: _ :: _ :: _ :: _ :: _ :: _ :: _ :: _ :: _ :: _ :: _ :: _ :: _ :: _ :: _ :: _ :: _ :: _ :: _ :: _ :: _ :: _ :: _ :: _ :: _ :: _ :: _ :: _ :: _ :: _ :: _ :: _ :: _ :: _ :: _ :: _ :: _ :: _ :: _ :: _ :: _ :: [])) hP hD [0, 2, 3] (1 :: 4 :: 5 :: 6 :: 7 :: 8 :: 9 :: 10 :: 11 :: 12 :: 13 :: 14 :: 15 :: 16 :: 17 :: 18 :: 19 :: 20 :: 21 :: 22 :: 23 :: 24 :: 25 :: 26 :: 27 :: 28 :: 29 :: 30 :: 31 :: 32 :: 33 :: 34 :: 35 :: 36 :: 37 :: 38 :: 39 :: 40 :: 41 :: 42 :: 43 :: 44 :: 45 :: 46 :: 47 :: 48 :: 49 :: 50 :: 51 :: 52 :: 53 :: 54 :: 55 :: 56 :: 57 :: 58 :: 59 :: 60 :: 61 :: 62 :: 63 :: 64 :: []) (1 :: 4 :: 5 :: 6 :: 7 :: 8 :: 9 :: 10 :: 11 :: 12 :: 13 :: 14 :: 15 :: 16 :: 17 :: 18 :: 19 :: 20 :: 21 :: 22 :: 23 :: 24 :: 25 :: 26 :: 27 :: 28 :: 29 :: 30 :: 31 :: 32 :: 33 :: 34 :: 35 :: 36 :: 37 :: 38 :: 39 :: 40 :: 41 :: 42 :: 43 :: 44 :: 45 :: 46 :: 47 :: 48 :: 49 :: 50 :: 51 :: 52 :: 53 :: 54 :: 55 :: 56 :: 57 :: 58 :: 59 :: 60 :: 61 :: 62 :: 63 :: 64 :: []) [0, 2, 3] (62 :: 0 :: 63 :: 64 :: 1 :: 2 :: 3 :: 4 :: 5 :: 6 :: 7 :: 8 :: 9 :: 10 :: 11 :: 12 :: 13 :: 14 :: 15 :: 16 :: 17 :: 18 :: 19 :: 20 :: 21 :: 22 :: 23 :: 24 :: 25 :: 26 :: 27 :: 28 :: 29 :: 30 :: 31 :: 32 :: 33 :: 34 :: 35 :: 36 :: 37 :: 38 :: 39 :: 40 :: 41 :: 42 :: 43 :: 44 :: 45 :: 46 :: 47 :: 48 :: 49 :: 50 :: 51 :: 52 :: 53 :: 54 :: 55 :: 56 :: 57 :: 58 :: 59 :: 60 :: 61 :: []) 65 rfl rfl rfl rfl rfl rfl rfl rfl rfl hk1 hFc hP1 hD1
  clear hk1 hPc hDc hFc hP1 hD1 ht
  refine lv_pop hx hb dL_law_533 rfl ?_
  refine la_10_2 l C0 hk9 hL9 hS hl (rfl) ?_
  obtain ⟨hPc, hDc, hFc⟩ := zc_sub (wc := [_]) hP hD hS hA [28] rfl rfl
  refine zcall (st1 := [.int 0]) (va_runV (As := [.int (xs (6 * k9 + 1))]) (rest := []) ⟨hx, hb, hml, hown, hts⟩ (k_M_drop_x l dC dI cI cZ cF H.size k0 a (upd I0 26 (nI ln)) J0 ft (xs (6 * k9 + 1)) (hm0) (h200f) (hbad)) (csV_248 hts rfl rfl ⟨Nat.le_of_ble_eq_true rfl, Nat.le_of_ble_eq_true rfl⟩) (zPV2 (q0 := 0) (ci := 9) hPc hDc hK3 hXN rfl rfl) rfl rfl hl.1 rfl (lv_room (Nat.le_of_ble_eq_true rfl)) dL_law_540 ⟨show 1000 + 1010 * k9 + cp + 4 * cl ≤ 600000 by omega, show 45000 + 8192 * cp + 512 * cl + U ≤ 7302250 by omega⟩) hS hFc hFc rfl (fun t H locs ht hB hk1 hS => ?_)
  obtain ⟨hP1, hD1⟩ := hB
  rw [ht] at hP1
  obtain ⟨hP, hD⟩ := zkQ (W2 := (_ :: _ :: _ :: _ :: _ :: _ :: _ :: _ :: _ :: _ :: _ :: _ :: _ :: _ :: _ :: _ :: _ :: _ :: _ :: _ :: _ :: _ :: _ :: _ :: _ :: _ :: _ :: _ :: (om k0 a (upd (upd (upd I0 14 1) 15 (I0 15)) 26 (nI ln)) J0) :: _ :: _ :: _ :: _ :: _ :: _ :: _ :: _ :: _ :: _ :: _ :: _ :: _ :: _ :: _ :: _ :: _ :: _ :: _ :: _ :: _ :: _ :: _ :: _ :: _ :: _ :: _ :: _ :: _ :: _ :: _ :: _ :: _ :: _ :: _ :: _ :: [])) hP hD [28] (0 :: 1 :: 2 :: 3 :: 4 :: 5 :: 6 :: 7 :: 8 :: 9 :: 10 :: 11 :: 12 :: 13 :: 14 :: 15 :: 16 :: 17 :: 18 :: 19 :: 20 :: 21 :: 22 :: 23 :: 24 :: 25 :: 26 :: 27 :: 29 :: 30 :: 31 :: 32 :: 33 :: 34 :: 35 :: 36 :: 37 :: 38 :: 39 :: 40 :: 41 :: 42 :: 43 :: 44 :: 45 :: 46 :: 47 :: 48 :: 49 :: 50 :: 51 :: 52 :: 53 :: 54 :: 55 :: 56 :: 57 :: 58 :: 59 :: 60 :: 61 :: 62 :: 63 :: 64 :: []) (0 :: 1 :: 2 :: 3 :: 4 :: 5 :: 6 :: 7 :: 8 :: 9 :: 10 :: 11 :: 12 :: 13 :: 14 :: 15 :: 16 :: 17 :: 18 :: 19 :: 20 :: 21 :: 22 :: 23 :: 24 :: 25 :: 26 :: 27 :: 29 :: 30 :: 31 :: 32 :: 33 :: 34 :: 35 :: 36 :: 37 :: 38 :: 39 :: 40 :: 41 :: 42 :: 43 :: 44 :: 45 :: 46 :: 47 :: 48 :: 49 :: 50 :: 51 :: 52 :: 53 :: 54 :: 55 :: 56 :: 57 :: 58 :: 59 :: 60 :: 61 :: 62 :: 63 :: 64 :: []) [28] (0 :: 1 :: 2 :: 3 :: 4 :: 5 :: 6 :: 7 :: 8 :: 9 :: 10 :: 11 :: 12 :: 13 :: 14 :: 15 :: 16 :: 17 :: 18 :: 19 :: 20 :: 21 :: 22 :: 23 :: 24 :: 25 :: 26 :: 27 :: 64 :: 28 :: 29 :: 30 :: 31 :: 32 :: 33 :: 34 :: 35 :: 36 :: 37 :: 38 :: 39 :: 40 :: 41 :: 42 :: 43 :: 44 :: 45 :: 46 :: 47 :: 48 :: 49 :: 50 :: 51 :: 52 :: 53 :: 54 :: 55 :: 56 :: 57 :: 58 :: 59 :: 60 :: 61 :: 62 :: 63 :: []) 65 rfl rfl rfl rfl rfl rfl rfl rfl rfl hk1 hFc hP1 hD1
  clear hk1 hPc hDc hFc hP1 hD1 ht
  refine lv_pop hx hb dL_law_543 rfl ?_
  refine lv_goto (tgt := 1081) hx hb dL_law_544 rfl ?_
  obtain ⟨hP9, hD9⟩ := zq_part (cx := (_ :: _ :: _ :: _ :: _ :: _ :: _ :: _ :: _ :: _ :: _ :: _ :: _ :: _ :: _ :: _ :: _ :: _ :: _ :: _ :: _ :: _ :: _ :: _ :: _ :: _ :: _ :: _ :: _ :: _ :: _ :: _ :: _ :: _ :: _ :: _ :: _ :: _ :: _ :: _ :: _ :: _ :: _ :: _ :: _ :: _ :: _ :: _ :: _ :: _ :: _ :: _ :: _ :: _ :: _ :: _ :: _ :: _ :: _ :: _ :: _ :: _ :: _ :: _ :: _ :: [])) hP hD (0 :: 1 :: 2 :: 3 :: 4 :: 5 :: 6 :: 7 :: 8 :: 9 :: 10 :: 11 :: 12 :: 13 :: 14 :: 15 :: 16 :: 17 :: 18 :: 19 :: 20 :: 21 :: 22 :: 23 :: 24 :: 25 :: 26 :: 27 :: 28 :: 29 :: 30 :: 31 :: 32 :: 33 :: 34 :: 35 :: 36 :: 37 :: 38 :: 39 :: 40 :: 41 :: 42 :: 43 :: 44 :: 45 :: 46 :: 47 :: 48 :: 49 :: 50 :: 51 :: 52 :: 53 :: 54 :: 55 :: 56 :: 57 :: 58 :: 59 :: 60 :: 61 :: 62 :: 63 :: 64 :: []) rfl rfl
  refine W.widen (k := 1000 + 1010 * (k9 + 1) + cp + 4 * cl) (n := 45000 + 8192 * cp + 512 * cl + U) (by omega) (by omega) ?_
  have e26 : upd (upd (upd (upd I0 14 1) 15 (I0 15)) 26 (nI ln)) 26 (nI ln) = (upd (upd (upd I0 14 1) 15 (I0 15)) 26 (nI ln)) := up_same rfl
  exact hnext cp cl U H locs ls (lawI_in L f FA ea nd nt nw q_1 q_2 mc9 rd rt rw P Q TX TY WX WY AR b1 b2 b3 b4 b5 b6 b7 b8 c1 c2 c3 c4 a1 a2 a3 a4 nv RA WT EX EY GR LV y1 y2 y3 y4 a (upd (upd (upd I0 14 1) 15 (I0 15)) 26 (nI ln)) J0 kd st gb it pa pb rk wd tw tn mn cx cy sa shs wh of9 we la lb lc ld P0 Q0 S0 ox oy mt wi ins T0 fl mk jx jy gr bs dn T ft Sn AD C ln FT cc W9 V VX VY (by rw [e26]; exact hP9) (by rw [e26]; exact hD9) (hB) (INV_K hI) ⟨hm0, hm19, hm20, hm21⟩ (by omega)) hS (lv_sub hl [0, 1, 2, 3] rfl)
set_option maxHeartbeats 4000000 in
set_option maxRecDepth 100000 in
theorem lc_drop_r {p : Program} {e : Env} {s : State} {m : MethodId} {below : List Frame} {meth : Method} {c : Code} (l : Launch) {b L9 : Nat} {xs : Nat → Int32} (C0 : lw_At p s m meth c b L9 xs) (dC : Nat → ClassId) (dI : Nat → Nat → Nat) (cI cZ cF cO : ClassId) (e0 mi : Nat) (x sl sh fa lw dr dx dy tg tx ty wy wx wz br bo aa ro za zw zx zy zg bq bp dq dp lv k0 : Nat) (hK : va_K (dC, dI) classes (zTyO cI cZ cF cO) s) (hXL : zXL e0 mi (fun q : Nat => s.heap.size ≤ q) s) (L : List Nat) (f : Nat → va_E) (FA : Nat → Option Nat) (ea : Nat) (nd : Nat) (nt : Nat) (nw : Nat) (ul : Int32) (su : Int32) (mc9 : Int32) (rd : Int32) (rt : Int32) (rw : Int32) (P : Nat → Int32) (Q : Nat → Int32) (TX : Nat → Int32) (TY : Nat → Int32) (WX : Nat → Int32) (WY : Nat → Int32) (AR : Nat → Int32) (b1 : Int32) (b2 : Int32) (b3 : Int32) (b4 : Int32) (b5 : Int32) (b6 : Int32) (b7 : Int32) (b8 : Int32) (c1 : Int32) (c2 : Int32) (c3 : Int32) (c4 : Int32) (a1 : Int32) (a2 : Int32) (a3 : Int32) (a4 : Int32) (nv : Int32) (RA : Nat → Option Nat) (WT : Nat → Int32) (EX : Nat → Int32) (EY : Nat → Int32) (GR : Nat → Int32) (LV : Nat → Int32) (y1 : Int64) (y2 : Int64) (y3 : Int64) (y4 : Int64) (a : Nat → Nat) (I0 : Nat → Int32) (J0 : Nat → Int64) (kd : Nat → Int32) (st : Nat → Int32) (gb : Nat → Int32) (it : Nat → Int32) (pa : Nat → Int32) (pb : Nat → Int32) (rk : Nat → Int32) (wd : Nat → Int32) (tw : Nat → Int32) (tn : Nat → Int32) (mn : Nat → Int32) (cx : Nat → Int32) (cy : Nat → Int32) (sa : Nat → Int32) (shs : Nat → Int32) (wh : Nat → Int32) (of9 : Nat → Int32) (we : Nat → Int32) (la : Nat → Int32) (lb : Nat → Int32) (lc : Nat → Int32) (ld : Nat → Int32) (P0 : Nat → Int32) (Q0 : Nat → Int32) (S0 : Nat → Int32) (ox : Nat → Int32) (oy : Nat → Int32) (mt : Nat → Int32) (wi : Nat → Int32) (ins : Nat → Int32) (T0 : Nat → Int32) (fl : Nat → Int32) (mk : Nat → Int32) (jx : Nat → Int32) (jy : Nat → Int32) (gr : Nat → Int32) (bs : Nat) (dn : Nat) (T : Nat) (ft : Nat) (Sn : Nat) (AD : Nat) (C : Nat) (ln : Nat) (FT : Nat → Nat) (cc : Nat → Nat) (W9 : Nat → Nat) (V : Nat → Nat → Nat → Int32) (VX : Nat → Nat → Int32) (VY : Nat → Nat → Int32) (cp cl U k9 : Nat) (hk9 : 6 * k9 + 6 ≤ L9) (hL9 : L9 ≤ 3072) (f0 : Nat) {H : Heap} {locs : List Loc} {ls : Array Slot} (hPD : zPD (dC, dI) classes (fun q : Nat => s.heap.size ≤ q) (((oc8 x (.ref sh) (.ref lw) (.ref ro) (.ref bq) (.ref bp) (.ref dq) (.ref dp) (.ref lv) (.ref sl) (nI dn) (nI bs) ul su) :: (oc10 sl mc9 (.ref ea) (nI T)) :: (oc7 sh (.ref fa) (nI ft)) :: (oq fa cF 200 FA) :: (oc3 lw (.ref dr) (.ref tg) (.ref wy) (.ref br) (.ref bo) (.ref aa)) :: (oc6 dr (.ref dx) (.ref dy) (nI nd) rd) :: (oa dx cI 40 P) :: (oa dy cI 40 Q) :: (oc6 tg (.ref tx) (.ref ty) (nI nt) rt) :: (oa tx cI 3 TX) :: (oa ty cI 3 TY) :: (oc6 wy (.ref wx) (.ref wz) (nI nw) rw) :: (oa wx cI 2 WX) :: (oa wz cI 2 WY) :: (oc0 br b1 b2 b3 b4) :: (oc0 bo b5 b6 b7 b8) :: (oa aa cI 40 AR) :: (oc5 ro (.ref za) (.ref zw) (.ref zx) (.ref zy) (.ref zg) nv) :: (oq za cF 200 RA) :: (oa zw cI 200 WT) :: (oa zx cI 400 EX) :: (oa zy cI 400 EY) :: (oa zg cI 400 GR) :: (oc0 bq c1 c2 c3 c4) :: (oc0 bp a1 a2 a3 a4) :: (oc2 dq y1 y2) :: (oc2 dp y3 y4) :: (oa lv cZ 200 LV) :: (om k0 a (upd I0 26 (nI ln)) J0) :: (oa (a 1) cI 201 kd) :: (oa (a 5) cI 201 st) :: (oa (a 7) cI 201 gb) :: (oa (a 10) cI 201 it) :: (oa (a 8) cI 201 pa) :: (oa (a 9) cI 201 pb) :: (oa (a 2) cI 201 rk) :: (oa (a 3) cI 201 wd) :: (oa (a 4) cI 201 tw) :: (oa (a 6) cZ 201 tn) :: (oa (a 11) cI 201 mn) :: (oa (a 12) cI 8040 cx) :: (oa (a 13) cI 8040 cy) :: (oa (a 27) cI 516 sa) :: (oa (a 28) cI (4096 * cp) shs) :: (oa (a 16) cI 514 wh) :: (oa (a 17) cI 514 of9) :: (oa (a 18) cI 514 we) :: (oa (a 22) cI (64 * cl) la) :: (oa (a 23) cI (64 * cl) lb) :: (oa (a 24) cI (64 * cl) lc) :: (oa (a 25) cI (64 * cl) ld) :: (oa (a 29) cI 42 P0) :: (oa (a 30) cI 42 Q0) :: (oa (a 32) cI 8 S0) :: (oa (a 33) cI 42 ox) :: (oa (a 34) cI 42 oy) :: (oa (a 37) cZ 201 mt) :: (oa (a 38) cZ 201 wi) :: (oa (a 39) cZ 8040 ins) :: (oa (a 40) cI 6 T0) :: (oa (a 43) cZ 40 fl) :: (oa (a 50) cZ 201 mk) :: (oa (a 51) cI 402 jx) :: (oa (a 52) cI 402 jy) :: (oa (a 53) cI 402 gr) :: []) ++ va_pl L f) H) (hS : va_S (fun q : Nat => s.heap.size ≤ q) s.heap H locs) (hl : lv_has ls 4 [(3, .int (nI (6 * k9))), (2, .ref k0), (1, .ref x), (0, .ref b)]) (hB : shB cI cO L f e0 FA ea bs dn T ft FT V VX VY tn rk wd tw pa pb wh of9 we kd st gb it mn cx cy) (hI : INV k9 Sn AD C cc W9 bs T ft cp ln cl FT V VX VY tn rk wd tw pa pb kd st it mn cx cy sa shs lb lc) (hM : I0 0 = nI ft ∧ I0 19 = nI dn ∧ I0 20 = nI (T - dn) ∧ I0 21 = nI bs) (hU : U ≤ Sn * (28 * (AD + C) + 1000) + 200 * (AD + C)) (hf0 : f0 < ft) (hv1 : xs (6 * k9 + 1) = nI f0) (hbad : ¬ ((st f0).toInt = 1 ∧ (tn f0).toInt = 0)) (hnext : ∀ (cp1 cl1 U1 : Nat) (H : Heap) (locs : List Loc) (ls : Array Slot), lawI s dC dI cI cZ cF cO e0 mi x sl sh fa lw dr dx dy tg tx ty wy wx wz br bo aa ro za zw zx zy zg bq bp dq dp lv k0 (k9 + 1) cp1 cl1 U1 H → va_S (fun q : Nat => s.heap.size ≤ q) s.heap H locs → lv_has ls 4 [(3, .int (nI (6 * k9))), (2, .ref k0), (1, .ref x), (0, .ref b)] → W p l e room_1 s m #[Value.ref b] below meth c H locs (1000 + 1010 * (k9 + 1) + cp1 + 4 * cl1) (45000 + 8192 * cp1 + 512 * cl1 + U1) (lw_Z below #[Value.ref b] s) (F0 m 1081 ls [])) : W p l e room_1 s m #[Value.ref b] below meth c H locs (1000 + 1010 * k9 + cp + 4 * cl) (45000 + 8192 * cp + 512 * cl + U) (lw_Z below #[Value.ref b] s) (F0 m 524 ls []) := by
  obtain ⟨hP, hD⟩ := hPD
  obtain ⟨hx, hb, hr, hml, hown, hts1, hX, hbl, hlocks, hgv⟩ := id C0
  have hts : ∀ w9 ∈ ws0, w9.before #[Value.ref b] s = true := fun w9 h => hts1 w9 (List.mem_filter.mp h).1
  have hA : ∀ q : Nat, s.heap.size ≤ q → (fun q : Nat => s.heap.size ≤ q) q := fun _ h => h
  have hbA : ¬ (fun q : Nat => s.heap.size ≤ q) b := Nat.not_le.mpr hbl
  have hXN := hXL.1
  have hK3 := hK.sub [0, 1, 2] rfl
  obtain ⟨hm0, hm19, hm20, hm21⟩ := hM
  have hpo := shB_po hB
  have hK512 : k9 + 1 ≤ 512 := (by omega)
  have hwfS := hI.1.1
  have hbdC := hI.1.2.2.1
  have hT0 := hI.1.2.2.2
  have hd9 := hpo.1
  have h200t : ∀ t, bs ≤ t → t ≤ T → FT t ≤ 200 := fun t t1 t2 => Nat.le_trans (hpo.2.1 t T t1 t2 (Nat.le_refl _)) hd9.2.2.2.2
  have h200f : ft ≤ 200 := (by rw [hd9.2.2.2.1]; exact h200t dn hd9.1 hd9.2.1)
  have hrkA : ∀ q, lvF ft st tn q → 0 ≤ (rk q).toInt ∧ (rk q).toInt ≤ 9 := fun q hq => (hI.1.2.1 q (Nat.lt_of_lt_of_le hq.1 (by rw [hd9.2.2.2.1]; exact hpo.2.1 dn T hd9.1 hd9.2.1 (Nat.le_refl _)))).1
  have hwdA : ∀ q, q < ft → 0 ≤ (wd q).toInt ∧ (wd q).toInt ≤ 100 := fun q hq => (hI.1.2.1 q (Nat.lt_of_lt_of_le hq (by rw [hd9.2.2.2.1]; exact hpo.2.1 dn T hd9.1 hd9.2.1 (Nat.le_refl _)))).2
  have hcp5 := INV_cp hI (by omega)
  have hcp1 := hI.2.2.1.2.1
  have hcnt := hI.2.2.2.1
  have hlst := hI.2.2.2.2
  have hlb := mul_514 (a := Sn) (b := C) (by omega)
  have hftA := bdC_F hbdC
  have hrm := room_c (Sn := Sn) (AD := AD) (C := C) (c := cp) (cl := cl) (U := U) (by omega) hI.2.2.1.2.2.2.2.2 hlst.2.2.2.1 hU
  have hkr := (hwfS f0 hf0).1
  refine la_10_1 l C0 hk9 hL9 hS hl (hv1) ?_
  obtain ⟨hPc, hDc, hFc⟩ := zc_part (cx := [_, _, _]) hP hD hS hA [0, 2, 3] rfl rfl
  refine zcall (st1 := [.int 0]) (va_runV (As := [.int (nI f0)]) (rest := []) ⟨hx, hb, hml, hown, hts⟩ (k_drop_r l dC dI cI cZ cF H.size x sh lw ro bq bp dq dp lv sl (nI bs) ul su (nI dn) fa ft FA f0 L f kd st tn mn cx cy (h200f) (hf0) (shB_vw hB) (hbad)) (csV_247 hts rfl rfl ⟨Nat.le_of_ble_eq_true rfl, Nat.le_of_ble_eq_true rfl⟩) (zPV2 (q0 := 0) (ci := 8) hPc hDc hK3 hXN rfl rfl) rfl rfl hl.1 rfl (lv_room (Nat.le_of_ble_eq_true rfl)) dL_law_530 ⟨show 1000 + 1010 * k9 + cp + 4 * cl ≤ 600000 by omega, show 45000 + 8192 * cp + 512 * cl + U ≤ 7302250 by omega⟩) hS hFc hFc rfl (fun t H locs ht hB hk1 hS => ?_)
  obtain ⟨q_1, q_2, hP1, hD1⟩ := hB
  rw [ht] at hP1
  obtain ⟨hP, hD⟩ := zkP (W2 := ((oc8 x (.ref sh) (.ref lw) (.ref ro) (.ref bq) (.ref bp) (.ref dq) (.ref dp) (.ref lv) (.ref sl) (nI dn) (nI bs) q_1 q_2) :: _ :: _ :: _ :: _ :: _ :: _ :: _ :: _ :: _ :: _ :: _ :: _ :: _ :: _ :: _ :: _ :: _ :: _ :: _ :: _ :: _ :: _ :: _ :: _ :: _ :: _ :: _ :: _ :: _ :: _ :: _ :: _ :: _ :: _ :: _ :: _ :: _ :: _ :: _ :: _ :: _ :: _ :: _ :: _ :: _ :: _ :: _ :: _ :: _ :: _ :: _ :: _ :: _ :: _ :: _ :: _ :: _ :: _ :: _ :: _ :: _ :: _ :: _ :: _ :: [])) hP hD [0, 2, 3] (1 :: 4 :: 5 :: 6 :: 7 :: 8 :: 9 :: 10 :: 11 :: 12 :: 13 :: 14 :: 15 :: 16 :: 17 :: 18 :: 19 :: 20 :: 21 :: 22 :: 23 :: 24 :: 25 :: 26 :: 27 :: 28 :: 29 :: 30 :: 31 :: 32 :: 33 :: 34 :: 35 :: 36 :: 37 :: 38 :: 39 :: 40 :: 41 :: 42 :: 43 :: 44 :: 45 :: 46 :: 47 :: 48 :: 49 :: 50 :: 51 :: 52 :: 53 :: 54 :: 55 :: 56 :: 57 :: 58 :: 59 :: 60 :: 61 :: 62 :: 63 :: 64 :: []) (1 :: 4 :: 5 :: 6 :: 7 :: 8 :: 9 :: 10 :: 11 :: 12 :: 13 :: 14 :: 15 :: 16 :: 17 :: 18 :: 19 :: 20 :: 21 :: 22 :: 23 :: 24 :: 25 :: 26 :: 27 :: 28 :: 29 :: 30 :: 31 :: 32 :: 33 :: 34 :: 35 :: 36 :: 37 :: 38 :: 39 :: 40 :: 41 :: 42 :: 43 :: 44 :: 45 :: 46 :: 47 :: 48 :: 49 :: 50 :: 51 :: 52 :: 53 :: 54 :: 55 :: 56 :: 57 :: 58 :: 59 :: 60 :: 61 :: 62 :: 63 :: 64 :: []) [0, 2, 3] (62 :: 0 :: 63 :: 64 :: 1 :: 2 :: 3 :: 4 :: 5 :: 6 :: 7 :: 8 :: 9 :: 10 :: 11 :: 12 :: 13 :: 14 :: 15 :: 16 :: 17 :: 18 :: 19 :: 20 :: 21 :: 22 :: 23 :: 24 :: 25 :: 26 :: 27 :: 28 :: 29 :: 30 :: 31 :: 32 :: 33 :: 34 :: 35 :: 36 :: 37 :: 38 :: 39 :: 40 :: 41 :: 42 :: 43 :: 44 :: 45 :: 46 :: 47 :: 48 :: 49 :: 50 :: 51 :: 52 :: 53 :: 54 :: 55 :: 56 :: 57 :: 58 :: 59 :: 60 :: 61 :: []) 65 rfl rfl rfl rfl rfl rfl rfl rfl rfl hk1 hFc hP1 hD1
  clear hk1 hPc hDc hFc hP1 hD1 ht
  refine lv_pop hx hb dL_law_533 rfl ?_
  refine la_10_2 l C0 hk9 hL9 hS hl (hv1) ?_
  obtain ⟨hPc, hDc, hFc⟩ := zc_sub (wc := [_, _, _]) hP hD hS hA [28, 30, 38] rfl rfl
  refine zcall (st1 := [.int 0]) (va_runV (As := [.int (nI f0)]) (rest := []) ⟨hx, hb, hml, hown, hts⟩ (k_M_drop_r l dC dI cI cZ cF H.size k0 a (upd I0 26 (nI ln)) J0 f0 ft st tn (hm0) (h200f) (by first | with_reducible assumption | omega) (hbad)) (csV_248 hts rfl rfl ⟨Nat.le_of_ble_eq_true rfl, Nat.le_of_ble_eq_true rfl⟩) (zPV2 (q0 := 0) (ci := 9) hPc hDc hK3 hXN rfl rfl) rfl rfl hl.1 rfl (lv_room (Nat.le_of_ble_eq_true rfl)) dL_law_540 ⟨show 1000 + 1010 * k9 + cp + 4 * cl ≤ 600000 by omega, show 45000 + 8192 * cp + 512 * cl + U ≤ 7302250 by omega⟩) hS hFc hFc rfl (fun t H locs ht hB hk1 hS => ?_)
  obtain ⟨q_3, hP1, hD1⟩ := hB
  rw [ht] at hP1
  obtain ⟨hP, hD⟩ := zkQ (W2 := (_ :: _ :: _ :: _ :: _ :: _ :: _ :: _ :: _ :: _ :: _ :: _ :: _ :: _ :: _ :: _ :: _ :: _ :: _ :: _ :: _ :: _ :: _ :: _ :: _ :: _ :: _ :: _ :: (om k0 a (upd (upd (upd I0 14 q_3) 15 (I0 15)) 26 (nI ln)) J0) :: _ :: _ :: _ :: _ :: _ :: _ :: _ :: _ :: _ :: _ :: _ :: _ :: _ :: _ :: _ :: _ :: _ :: _ :: _ :: _ :: _ :: _ :: _ :: _ :: _ :: _ :: _ :: _ :: _ :: _ :: _ :: _ :: _ :: _ :: _ :: _ :: [])) hP hD [28, 30, 38] (0 :: 1 :: 2 :: 3 :: 4 :: 5 :: 6 :: 7 :: 8 :: 9 :: 10 :: 11 :: 12 :: 13 :: 14 :: 15 :: 16 :: 17 :: 18 :: 19 :: 20 :: 21 :: 22 :: 23 :: 24 :: 25 :: 26 :: 27 :: 29 :: 31 :: 32 :: 33 :: 34 :: 35 :: 36 :: 37 :: 39 :: 40 :: 41 :: 42 :: 43 :: 44 :: 45 :: 46 :: 47 :: 48 :: 49 :: 50 :: 51 :: 52 :: 53 :: 54 :: 55 :: 56 :: 57 :: 58 :: 59 :: 60 :: 61 :: 62 :: 63 :: 64 :: []) (0 :: 1 :: 2 :: 3 :: 4 :: 5 :: 6 :: 7 :: 8 :: 9 :: 10 :: 11 :: 12 :: 13 :: 14 :: 15 :: 16 :: 17 :: 18 :: 19 :: 20 :: 21 :: 22 :: 23 :: 24 :: 25 :: 26 :: 27 :: 29 :: 31 :: 32 :: 33 :: 34 :: 35 :: 36 :: 37 :: 39 :: 40 :: 41 :: 42 :: 43 :: 44 :: 45 :: 46 :: 47 :: 48 :: 49 :: 50 :: 51 :: 52 :: 53 :: 54 :: 55 :: 56 :: 57 :: 58 :: 59 :: 60 :: 61 :: 62 :: 63 :: 64 :: []) [28, 30, 38] (0 :: 1 :: 2 :: 3 :: 4 :: 5 :: 6 :: 7 :: 8 :: 9 :: 10 :: 11 :: 12 :: 13 :: 14 :: 15 :: 16 :: 17 :: 18 :: 19 :: 20 :: 21 :: 22 :: 23 :: 24 :: 25 :: 26 :: 27 :: 62 :: 28 :: 63 :: 29 :: 30 :: 31 :: 32 :: 33 :: 34 :: 35 :: 64 :: 36 :: 37 :: 38 :: 39 :: 40 :: 41 :: 42 :: 43 :: 44 :: 45 :: 46 :: 47 :: 48 :: 49 :: 50 :: 51 :: 52 :: 53 :: 54 :: 55 :: 56 :: 57 :: 58 :: 59 :: 60 :: 61 :: []) 65 rfl rfl rfl rfl rfl rfl rfl rfl rfl hk1 hFc hP1 hD1
  clear hk1 hPc hDc hFc hP1 hD1 ht
  refine lv_pop hx hb dL_law_543 rfl ?_
  refine lv_goto (tgt := 1081) hx hb dL_law_544 rfl ?_
  obtain ⟨hP9, hD9⟩ := zq_part (cx := (_ :: _ :: _ :: _ :: _ :: _ :: _ :: _ :: _ :: _ :: _ :: _ :: _ :: _ :: _ :: _ :: _ :: _ :: _ :: _ :: _ :: _ :: _ :: _ :: _ :: _ :: _ :: _ :: _ :: _ :: _ :: _ :: _ :: _ :: _ :: _ :: _ :: _ :: _ :: _ :: _ :: _ :: _ :: _ :: _ :: _ :: _ :: _ :: _ :: _ :: _ :: _ :: _ :: _ :: _ :: _ :: _ :: _ :: _ :: _ :: _ :: _ :: _ :: _ :: _ :: [])) hP hD (0 :: 1 :: 2 :: 3 :: 4 :: 5 :: 6 :: 7 :: 8 :: 9 :: 10 :: 11 :: 12 :: 13 :: 14 :: 15 :: 16 :: 17 :: 18 :: 19 :: 20 :: 21 :: 22 :: 23 :: 24 :: 25 :: 26 :: 27 :: 28 :: 29 :: 30 :: 31 :: 32 :: 33 :: 34 :: 35 :: 36 :: 37 :: 38 :: 39 :: 40 :: 41 :: 42 :: 43 :: 44 :: 45 :: 46 :: 47 :: 48 :: 49 :: 50 :: 51 :: 52 :: 53 :: 54 :: 55 :: 56 :: 57 :: 58 :: 59 :: 60 :: 61 :: 62 :: 63 :: 64 :: []) rfl rfl
  refine W.widen (k := 1000 + 1010 * (k9 + 1) + cp + 4 * cl) (n := 45000 + 8192 * cp + 512 * cl + U) (by omega) (by omega) ?_
  have e26 : upd (upd (upd (upd I0 14 q_3) 15 (I0 15)) 26 (nI ln)) 26 (nI ln) = (upd (upd (upd I0 14 q_3) 15 (I0 15)) 26 (nI ln)) := up_same rfl
  exact hnext cp cl U H locs ls (lawI_in L f FA ea nd nt nw q_1 q_2 mc9 rd rt rw P Q TX TY WX WY AR b1 b2 b3 b4 b5 b6 b7 b8 c1 c2 c3 c4 a1 a2 a3 a4 nv RA WT EX EY GR LV y1 y2 y3 y4 a (upd (upd (upd I0 14 q_3) 15 (I0 15)) 26 (nI ln)) J0 kd st gb it pa pb rk wd tw tn mn cx cy sa shs wh of9 we la lb lc ld P0 Q0 S0 ox oy mt wi ins T0 fl mk jx jy gr bs dn T ft Sn AD C ln FT cc W9 V VX VY (by rw [e26]; exact hP9) (by rw [e26]; exact hD9) (hB) (INV_K hI) ⟨hm0, hm19, hm20, hm21⟩ (by omega)) hS (lv_sub hl [0, 1, 2, 3] rfl)
set_option maxHeartbeats 4000000 in
set_option maxRecDepth 100000 in
theorem lc_tear_r {p : Program} {e : Env} {s : State} {m : MethodId} {below : List Frame} {meth : Method} {c : Code} (l : Launch) {b L9 : Nat} {xs : Nat → Int32} (C0 : lw_At p s m meth c b L9 xs) (dC : Nat → ClassId) (dI : Nat → Nat → Nat) (cI cZ cF cO : ClassId) (e0 mi : Nat) (x sl sh fa lw dr dx dy tg tx ty wy wx wz br bo aa ro za zw zx zy zg bq bp dq dp lv k0 : Nat) (hK : va_K (dC, dI) classes (zTyO cI cZ cF cO) s) (hXL : zXL e0 mi (fun q : Nat => s.heap.size ≤ q) s) (L : List Nat) (f : Nat → va_E) (FA : Nat → Option Nat) (ea : Nat) (nd : Nat) (nt : Nat) (nw : Nat) (ul : Int32) (su : Int32) (mc9 : Int32) (rd : Int32) (rt : Int32) (rw : Int32) (P : Nat → Int32) (Q : Nat → Int32) (TX : Nat → Int32) (TY : Nat → Int32) (WX : Nat → Int32) (WY : Nat → Int32) (AR : Nat → Int32) (b1 : Int32) (b2 : Int32) (b3 : Int32) (b4 : Int32) (b5 : Int32) (b6 : Int32) (b7 : Int32) (b8 : Int32) (c1 : Int32) (c2 : Int32) (c3 : Int32) (c4 : Int32) (a1 : Int32) (a2 : Int32) (a3 : Int32) (a4 : Int32) (nv : Int32) (RA : Nat → Option Nat) (WT : Nat → Int32) (EX : Nat → Int32) (EY : Nat → Int32) (GR : Nat → Int32) (LV : Nat → Int32) (y1 : Int64) (y2 : Int64) (y3 : Int64) (y4 : Int64) (a : Nat → Nat) (I0 : Nat → Int32) (J0 : Nat → Int64) (kd : Nat → Int32) (st : Nat → Int32) (gb : Nat → Int32) (it : Nat → Int32) (pa : Nat → Int32) (pb : Nat → Int32) (rk : Nat → Int32) (wd : Nat → Int32) (tw : Nat → Int32) (tn : Nat → Int32) (mn : Nat → Int32) (cx : Nat → Int32) (cy : Nat → Int32) (sa : Nat → Int32) (shs : Nat → Int32) (wh : Nat → Int32) (of9 : Nat → Int32) (we : Nat → Int32) (la : Nat → Int32) (lb : Nat → Int32) (lc : Nat → Int32) (ld : Nat → Int32) (P0 : Nat → Int32) (Q0 : Nat → Int32) (S0 : Nat → Int32) (ox : Nat → Int32) (oy : Nat → Int32) (mt : Nat → Int32) (wi : Nat → Int32) (ins : Nat → Int32) (T0 : Nat → Int32) (fl : Nat → Int32) (mk : Nat → Int32) (jx : Nat → Int32) (jy : Nat → Int32) (gr : Nat → Int32) (bs : Nat) (dn : Nat) (T : Nat) (ft : Nat) (Sn : Nat) (AD : Nat) (C : Nat) (ln : Nat) (FT : Nat → Nat) (cc : Nat → Nat) (W9 : Nat → Nat) (V : Nat → Nat → Nat → Int32) (VX : Nat → Nat → Int32) (VY : Nat → Nat → Int32) (cp cl U k9 : Nat) (hk9 : 6 * k9 + 6 ≤ L9) (hL9 : L9 ≤ 3072) (f0 : Nat) {H : Heap} {locs : List Loc} {ls : Array Slot} (hPD : zPD (dC, dI) classes (fun q : Nat => s.heap.size ≤ q) (((oc8 x (.ref sh) (.ref lw) (.ref ro) (.ref bq) (.ref bp) (.ref dq) (.ref dp) (.ref lv) (.ref sl) (nI dn) (nI bs) ul su) :: (oc10 sl mc9 (.ref ea) (nI T)) :: (oc7 sh (.ref fa) (nI ft)) :: (oq fa cF 200 FA) :: (oc3 lw (.ref dr) (.ref tg) (.ref wy) (.ref br) (.ref bo) (.ref aa)) :: (oc6 dr (.ref dx) (.ref dy) (nI nd) rd) :: (oa dx cI 40 P) :: (oa dy cI 40 Q) :: (oc6 tg (.ref tx) (.ref ty) (nI nt) rt) :: (oa tx cI 3 TX) :: (oa ty cI 3 TY) :: (oc6 wy (.ref wx) (.ref wz) (nI nw) rw) :: (oa wx cI 2 WX) :: (oa wz cI 2 WY) :: (oc0 br b1 b2 b3 b4) :: (oc0 bo b5 b6 b7 b8) :: (oa aa cI 40 AR) :: (oc5 ro (.ref za) (.ref zw) (.ref zx) (.ref zy) (.ref zg) nv) :: (oq za cF 200 RA) :: (oa zw cI 200 WT) :: (oa zx cI 400 EX) :: (oa zy cI 400 EY) :: (oa zg cI 400 GR) :: (oc0 bq c1 c2 c3 c4) :: (oc0 bp a1 a2 a3 a4) :: (oc2 dq y1 y2) :: (oc2 dp y3 y4) :: (oa lv cZ 200 LV) :: (om k0 a (upd I0 26 (nI ln)) J0) :: (oa (a 1) cI 201 kd) :: (oa (a 5) cI 201 st) :: (oa (a 7) cI 201 gb) :: (oa (a 10) cI 201 it) :: (oa (a 8) cI 201 pa) :: (oa (a 9) cI 201 pb) :: (oa (a 2) cI 201 rk) :: (oa (a 3) cI 201 wd) :: (oa (a 4) cI 201 tw) :: (oa (a 6) cZ 201 tn) :: (oa (a 11) cI 201 mn) :: (oa (a 12) cI 8040 cx) :: (oa (a 13) cI 8040 cy) :: (oa (a 27) cI 516 sa) :: (oa (a 28) cI (4096 * cp) shs) :: (oa (a 16) cI 514 wh) :: (oa (a 17) cI 514 of9) :: (oa (a 18) cI 514 we) :: (oa (a 22) cI (64 * cl) la) :: (oa (a 23) cI (64 * cl) lb) :: (oa (a 24) cI (64 * cl) lc) :: (oa (a 25) cI (64 * cl) ld) :: (oa (a 29) cI 42 P0) :: (oa (a 30) cI 42 Q0) :: (oa (a 32) cI 8 S0) :: (oa (a 33) cI 42 ox) :: (oa (a 34) cI 42 oy) :: (oa (a 37) cZ 201 mt) :: (oa (a 38) cZ 201 wi) :: (oa (a 39) cZ 8040 ins) :: (oa (a 40) cI 6 T0) :: (oa (a 43) cZ 40 fl) :: (oa (a 50) cZ 201 mk) :: (oa (a 51) cI 402 jx) :: (oa (a 52) cI 402 jy) :: (oa (a 53) cI 402 gr) :: []) ++ va_pl L f) H) (hS : va_S (fun q : Nat => s.heap.size ≤ q) s.heap H locs) (hl : lv_has ls 4 [(3, .int (nI (6 * k9))), (2, .ref k0), (1, .ref x), (0, .ref b)]) (hB : shB cI cO L f e0 FA ea bs dn T ft FT V VX VY tn rk wd tw pa pb wh of9 we kd st gb it mn cx cy) (hI : INV k9 Sn AD C cc W9 bs T ft cp ln cl FT V VX VY tn rk wd tw pa pb kd st it mn cx cy sa shs lb lc) (hM : I0 0 = nI ft ∧ I0 19 = nI dn ∧ I0 20 = nI (T - dn) ∧ I0 21 = nI bs) (hU : U ≤ Sn * (28 * (AD + C) + 1000) + 200 * (AD + C)) (hf0 : f0 < ft) (hv1 : xs (6 * k9 + 1) = nI f0) (hbad : ¬ (¬ (st f0).toInt = 2 ∧ (tn f0).toInt = 0)) (hnext : ∀ (cp1 cl1 U1 : Nat) (H : Heap) (locs : List Loc) (ls : Array Slot), lawI s dC dI cI cZ cF cO e0 mi x sl sh fa lw dr dx dy tg tx ty wy wx wz br bo aa ro za zw zx zy zg bq bp dq dp lv k0 (k9 + 1) cp1 cl1 U1 H → va_S (fun q : Nat => s.heap.size ≤ q) s.heap H locs → lv_has ls 4 [(3, .int (nI (6 * k9))), (2, .ref k0), (1, .ref x), (0, .ref b)] → W p l e room_1 s m #[Value.ref b] below meth c H locs (1000 + 1010 * (k9 + 1) + cp1 + 4 * cl1) (45000 + 8192 * cp1 + 512 * cl1 + U1) (lw_Z below #[Value.ref b] s) (F0 m 1081 ls [])) : W p l e room_1 s m #[Value.ref b] below meth c H locs (1000 + 1010 * k9 + cp + 4 * cl) (45000 + 8192 * cp + 512 * cl + U) (lw_Z below #[Value.ref b] s) (F0 m 260 ls []) := by
  obtain ⟨hP, hD⟩ := hPD
  obtain ⟨hx, hb, hr, hml, hown, hts1, hX, hbl, hlocks, hgv⟩ := id C0
  have hts : ∀ w9 ∈ ws0, w9.before #[Value.ref b] s = true := fun w9 h => hts1 w9 (List.mem_filter.mp h).1
  have hA : ∀ q : Nat, s.heap.size ≤ q → (fun q : Nat => s.heap.size ≤ q) q := fun _ h => h
  have hbA : ¬ (fun q : Nat => s.heap.size ≤ q) b := Nat.not_le.mpr hbl
  have hXN := hXL.1
  have hK3 := hK.sub [0, 1, 2] rfl
  obtain ⟨hm0, hm19, hm20, hm21⟩ := hM
  have hpo := shB_po hB
  have hK512 : k9 + 1 ≤ 512 := (by omega)
  have hwfS := hI.1.1
  have hbdC := hI.1.2.2.1
  have hT0 := hI.1.2.2.2
  have hd9 := hpo.1
  have h200t : ∀ t, bs ≤ t → t ≤ T → FT t ≤ 200 := fun t t1 t2 => Nat.le_trans (hpo.2.1 t T t1 t2 (Nat.le_refl _)) hd9.2.2.2.2
  have h200f : ft ≤ 200 := (by rw [hd9.2.2.2.1]; exact h200t dn hd9.1 hd9.2.1)
  have hrkA : ∀ q, lvF ft st tn q → 0 ≤ (rk q).toInt ∧ (rk q).toInt ≤ 9 := fun q hq => (hI.1.2.1 q (Nat.lt_of_lt_of_le hq.1 (by rw [hd9.2.2.2.1]; exact hpo.2.1 dn T hd9.1 hd9.2.1 (Nat.le_refl _)))).1
  have hwdA : ∀ q, q < ft → 0 ≤ (wd q).toInt ∧ (wd q).toInt ≤ 100 := fun q hq => (hI.1.2.1 q (Nat.lt_of_lt_of_le hq (by rw [hd9.2.2.2.1]; exact hpo.2.1 dn T hd9.1 hd9.2.1 (Nat.le_refl _)))).2
  have hcp5 := INV_cp hI (by omega)
  have hcp1 := hI.2.2.1.2.1
  have hcnt := hI.2.2.2.1
  have hlst := hI.2.2.2.2
  have hlb := mul_514 (a := Sn) (b := C) (by omega)
  have hftA := bdC_F hbdC
  have hrm := room_c (Sn := Sn) (AD := AD) (C := C) (c := cp) (cl := cl) (U := U) (by omega) hI.2.2.1.2.2.2.2.2 hlst.2.2.2.1 hU
  have hkr := (hwfS f0 hf0).1
  refine la_2_1 l C0 hk9 hL9 hS hl (hv1) ?_
  obtain ⟨hPc, hDc, hFc⟩ := zc_part (cx := [_, _, _]) hP hD hS hA [0, 2, 3] rfl rfl
  refine zcall (st1 := [.int 0]) (va_runV (As := [.int (nI f0)]) (rest := []) ⟨hx, hb, hml, hown, hts⟩ (k_tear_r l dC dI cI cZ cF H.size x sh lw ro bq bp dq dp lv sl (nI bs) ul su (nI dn) fa ft FA f0 L f kd st tn mn cx cy (h200f) (hf0) (shB_vw hB) (hbad)) (csV_233 hts rfl rfl ⟨Nat.le_of_ble_eq_true rfl, Nat.le_of_ble_eq_true rfl⟩) (zPV2 (q0 := 0) (ci := 8) hPc hDc hK3 hXN rfl rfl) rfl rfl hl.1 rfl (lv_room (Nat.le_of_ble_eq_true rfl)) dL_law_266 ⟨show 1000 + 1010 * k9 + cp + 4 * cl ≤ 600000 by omega, show 45000 + 8192 * cp + 512 * cl + U ≤ 7302250 by omega⟩) hS hFc hFc rfl (fun t H locs ht hB hk1 hS => ?_)
  obtain ⟨q_1, q_2, hP1, hD1⟩ := hB
  rw [ht] at hP1
  obtain ⟨hP, hD⟩ := zkP (W2 := ((oc8 x (.ref sh) (.ref lw) (.ref ro) (.ref bq) (.ref bp) (.ref dq) (.ref dp) (.ref lv) (.ref sl) (nI dn) (nI bs) q_1 q_2) :: _ :: _ :: _ :: _ :: _ :: _ :: _ :: _ :: _ :: _ :: _ :: _ :: _ :: _ :: _ :: _ :: _ :: _ :: _ :: _ :: _ :: _ :: _ :: _ :: _ :: _ :: _ :: _ :: _ :: _ :: _ :: _ :: _ :: _ :: _ :: _ :: _ :: _ :: _ :: _ :: _ :: _ :: _ :: _ :: _ :: _ :: _ :: _ :: _ :: _ :: _ :: _ :: _ :: _ :: _ :: _ :: _ :: _ :: _ :: _ :: _ :: _ :: _ :: _ :: [])) hP hD [0, 2, 3] (1 :: 4 :: 5 :: 6 :: 7 :: 8 :: 9 :: 10 :: 11 :: 12 :: 13 :: 14 :: 15 :: 16 :: 17 :: 18 :: 19 :: 20 :: 21 :: 22 :: 23 :: 24 :: 25 :: 26 :: 27 :: 28 :: 29 :: 30 :: 31 :: 32 :: 33 :: 34 :: 35 :: 36 :: 37 :: 38 :: 39 :: 40 :: 41 :: 42 :: 43 :: 44 :: 45 :: 46 :: 47 :: 48 :: 49 :: 50 :: 51 :: 52 :: 53 :: 54 :: 55 :: 56 :: 57 :: 58 :: 59 :: 60 :: 61 :: 62 :: 63 :: 64 :: []) (1 :: 4 :: 5 :: 6 :: 7 :: 8 :: 9 :: 10 :: 11 :: 12 :: 13 :: 14 :: 15 :: 16 :: 17 :: 18 :: 19 :: 20 :: 21 :: 22 :: 23 :: 24 :: 25 :: 26 :: 27 :: 28 :: 29 :: 30 :: 31 :: 32 :: 33 :: 34 :: 35 :: 36 :: 37 :: 38 :: 39 :: 40 :: 41 :: 42 :: 43 :: 44 :: 45 :: 46 :: 47 :: 48 :: 49 :: 50 :: 51 :: 52 :: 53 :: 54 :: 55 :: 56 :: 57 :: 58 :: 59 :: 60 :: 61 :: 62 :: 63 :: 64 :: []) [0, 2, 3] (62 :: 0 :: 63 :: 64 :: 1 :: 2 :: 3 :: 4 :: 5 :: 6 :: 7 :: 8 :: 9 :: 10 :: 11 :: 12 :: 13 :: 14 :: 15 :: 16 :: 17 :: 18 :: 19 :: 20 :: 21 :: 22 :: 23 :: 24 :: 25 :: 26 :: 27 :: 28 :: 29 :: 30 :: 31 :: 32 :: 33 :: 34 :: 35 :: 36 :: 37 :: 38 :: 39 :: 40 :: 41 :: 42 :: 43 :: 44 :: 45 :: 46 :: 47 :: 48 :: 49 :: 50 :: 51 :: 52 :: 53 :: 54 :: 55 :: 56 :: 57 :: 58 :: 59 :: 60 :: 61 :: []) 65 rfl rfl rfl rfl rfl rfl rfl rfl rfl hk1 hFc hP1 hD1
  clear hk1 hPc hDc hFc hP1 hD1 ht
  refine la_2_2 l C0 hk9 hL9 hS hl (hv1) ?_
  obtain ⟨hPc, hDc, hFc⟩ := zc_sub (wc := [_, _, _]) hP hD hS hA [28, 30, 38] rfl rfl
  refine zcall (st1 := [.int 0, .int 0]) (va_runV (As := [.int (nI f0)]) (rest := [.int 0]) ⟨hx, hb, hml, hown, hts⟩ (k_M_tear_r l dC dI cI cZ cF H.size k0 a (upd I0 26 (nI ln)) J0 f0 ft st tn (hm0) (h200f) (by first | with_reducible assumption | omega) (hbad)) (csV_234 hts rfl rfl ⟨Nat.le_of_ble_eq_true rfl, Nat.le_of_ble_eq_true rfl⟩) (zPV2 (q0 := 0) (ci := 9) hPc hDc hK3 hXN rfl rfl) rfl rfl hl.1 rfl (lv_room (Nat.le_of_ble_eq_true rfl)) dL_law_275 ⟨show 1000 + 1010 * k9 + cp + 4 * cl ≤ 600000 by omega, show 45000 + 8192 * cp + 512 * cl + U ≤ 7302250 by omega⟩) hS hFc hFc rfl (fun t H locs ht hB hk1 hS => ?_)
  obtain ⟨q_3, hP1, hD1⟩ := hB
  rw [ht] at hP1
  obtain ⟨hP, hD⟩ := zkQ (W2 := (_ :: _ :: _ :: _ :: _ :: _ :: _ :: _ :: _ :: _ :: _ :: _ :: _ :: _ :: _ :: _ :: _ :: _ :: _ :: _ :: _ :: _ :: _ :: _ :: _ :: _ :: _ :: _ :: (om k0 a (upd (upd (upd I0 14 q_3) 15 (I0 15)) 26 (nI ln)) J0) :: _ :: _ :: _ :: _ :: _ :: _ :: _ :: _ :: _ :: _ :: _ :: _ :: _ :: _ :: _ :: _ :: _ :: _ :: _ :: _ :: _ :: _ :: _ :: _ :: _ :: _ :: _ :: _ :: _ :: _ :: _ :: _ :: _ :: _ :: _ :: _ :: [])) hP hD [28, 30, 38] (0 :: 1 :: 2 :: 3 :: 4 :: 5 :: 6 :: 7 :: 8 :: 9 :: 10 :: 11 :: 12 :: 13 :: 14 :: 15 :: 16 :: 17 :: 18 :: 19 :: 20 :: 21 :: 22 :: 23 :: 24 :: 25 :: 26 :: 27 :: 29 :: 31 :: 32 :: 33 :: 34 :: 35 :: 36 :: 37 :: 39 :: 40 :: 41 :: 42 :: 43 :: 44 :: 45 :: 46 :: 47 :: 48 :: 49 :: 50 :: 51 :: 52 :: 53 :: 54 :: 55 :: 56 :: 57 :: 58 :: 59 :: 60 :: 61 :: 62 :: 63 :: 64 :: []) (0 :: 1 :: 2 :: 3 :: 4 :: 5 :: 6 :: 7 :: 8 :: 9 :: 10 :: 11 :: 12 :: 13 :: 14 :: 15 :: 16 :: 17 :: 18 :: 19 :: 20 :: 21 :: 22 :: 23 :: 24 :: 25 :: 26 :: 27 :: 29 :: 31 :: 32 :: 33 :: 34 :: 35 :: 36 :: 37 :: 39 :: 40 :: 41 :: 42 :: 43 :: 44 :: 45 :: 46 :: 47 :: 48 :: 49 :: 50 :: 51 :: 52 :: 53 :: 54 :: 55 :: 56 :: 57 :: 58 :: 59 :: 60 :: 61 :: 62 :: 63 :: 64 :: []) [28, 30, 38] (0 :: 1 :: 2 :: 3 :: 4 :: 5 :: 6 :: 7 :: 8 :: 9 :: 10 :: 11 :: 12 :: 13 :: 14 :: 15 :: 16 :: 17 :: 18 :: 19 :: 20 :: 21 :: 22 :: 23 :: 24 :: 25 :: 26 :: 27 :: 62 :: 28 :: 63 :: 29 :: 30 :: 31 :: 32 :: 33 :: 34 :: 35 :: 64 :: 36 :: 37 :: 38 :: 39 :: 40 :: 41 :: 42 :: 43 :: 44 :: 45 :: 46 :: 47 :: 48 :: 49 :: 50 :: 51 :: 52 :: 53 :: 54 :: 55 :: 56 :: 57 :: 58 :: 59 :: 60 :: 61 :: []) 65 rfl rfl rfl rfl rfl rfl rfl rfl rfl hk1 hFc hP1 hD1
  clear hk1 hPc hDc hFc hP1 hD1 ht
  refine lv_icmp_eq (tgt := 1081) hx hb dL_law_278 rfl (fun _ => ?_) (fun c_4 => absurd (rfl) c_4)
  obtain ⟨hP9, hD9⟩ := zq_part (cx := (_ :: _ :: _ :: _ :: _ :: _ :: _ :: _ :: _ :: _ :: _ :: _ :: _ :: _ :: _ :: _ :: _ :: _ :: _ :: _ :: _ :: _ :: _ :: _ :: _ :: _ :: _ :: _ :: _ :: _ :: _ :: _ :: _ :: _ :: _ :: _ :: _ :: _ :: _ :: _ :: _ :: _ :: _ :: _ :: _ :: _ :: _ :: _ :: _ :: _ :: _ :: _ :: _ :: _ :: _ :: _ :: _ :: _ :: _ :: _ :: _ :: _ :: _ :: _ :: _ :: [])) hP hD (0 :: 1 :: 2 :: 3 :: 4 :: 5 :: 6 :: 7 :: 8 :: 9 :: 10 :: 11 :: 12 :: 13 :: 14 :: 15 :: 16 :: 17 :: 18 :: 19 :: 20 :: 21 :: 22 :: 23 :: 24 :: 25 :: 26 :: 27 :: 28 :: 29 :: 30 :: 31 :: 32 :: 33 :: 34 :: 35 :: 36 :: 37 :: 38 :: 39 :: 40 :: 41 :: 42 :: 43 :: 44 :: 45 :: 46 :: 47 :: 48 :: 49 :: 50 :: 51 :: 52 :: 53 :: 54 :: 55 :: 56 :: 57 :: 58 :: 59 :: 60 :: 61 :: 62 :: 63 :: 64 :: []) rfl rfl
  refine W.widen (k := 1000 + 1010 * (k9 + 1) + cp + 4 * cl) (n := 45000 + 8192 * cp + 512 * cl + U) (by omega) (by omega) ?_
  have e26 : upd (upd (upd (upd I0 14 q_3) 15 (I0 15)) 26 (nI ln)) 26 (nI ln) = (upd (upd (upd I0 14 q_3) 15 (I0 15)) 26 (nI ln)) := up_same rfl
  exact hnext cp cl U H locs ls (lawI_in L f FA ea nd nt nw q_1 q_2 mc9 rd rt rw P Q TX TY WX WY AR b1 b2 b3 b4 b5 b6 b7 b8 c1 c2 c3 c4 a1 a2 a3 a4 nv RA WT EX EY GR LV y1 y2 y3 y4 a (upd (upd (upd I0 14 q_3) 15 (I0 15)) 26 (nI ln)) J0 kd st gb it pa pb rk wd tw tn mn cx cy sa shs wh of9 we la lb lc ld P0 Q0 S0 ox oy mt wi ins T0 fl mk jx jy gr bs dn T ft Sn AD C ln FT cc W9 V VX VY (by rw [e26]; exact hP9) (by rw [e26]; exact hD9) (hB) (INV_K hI) ⟨hm0, hm19, hm20, hm21⟩ (by omega)) hS (lv_sub hl [0, 1, 2, 3] rfl)
set_option maxHeartbeats 4000000 in
set_option maxRecDepth 100000 in
theorem lc_plainer_r {p : Program} {e : Env} {s : State} {m : MethodId} {below : List Frame} {meth : Method} {c : Code} (l : Launch) {b L9 : Nat} {xs : Nat → Int32} (C0 : lw_At p s m meth c b L9 xs) (dC : Nat → ClassId) (dI : Nat → Nat → Nat) (cI cZ cF cO : ClassId) (e0 mi : Nat) (x sl sh fa lw dr dx dy tg tx ty wy wx wz br bo aa ro za zw zx zy zg bq bp dq dp lv k0 : Nat) (hK : va_K (dC, dI) classes (zTyO cI cZ cF cO) s) (hXL : zXL e0 mi (fun q : Nat => s.heap.size ≤ q) s) (L : List Nat) (f : Nat → va_E) (FA : Nat → Option Nat) (ea : Nat) (nd : Nat) (nt : Nat) (nw : Nat) (ul : Int32) (su : Int32) (mc9 : Int32) (rd : Int32) (rt : Int32) (rw : Int32) (P : Nat → Int32) (Q : Nat → Int32) (TX : Nat → Int32) (TY : Nat → Int32) (WX : Nat → Int32) (WY : Nat → Int32) (AR : Nat → Int32) (b1 : Int32) (b2 : Int32) (b3 : Int32) (b4 : Int32) (b5 : Int32) (b6 : Int32) (b7 : Int32) (b8 : Int32) (c1 : Int32) (c2 : Int32) (c3 : Int32) (c4 : Int32) (a1 : Int32) (a2 : Int32) (a3 : Int32) (a4 : Int32) (nv : Int32) (RA : Nat → Option Nat) (WT : Nat → Int32) (EX : Nat → Int32) (EY : Nat → Int32) (GR : Nat → Int32) (LV : Nat → Int32) (y1 : Int64) (y2 : Int64) (y3 : Int64) (y4 : Int64) (a : Nat → Nat) (I0 : Nat → Int32) (J0 : Nat → Int64) (kd : Nat → Int32) (st : Nat → Int32) (gb : Nat → Int32) (it : Nat → Int32) (pa : Nat → Int32) (pb : Nat → Int32) (rk : Nat → Int32) (wd : Nat → Int32) (tw : Nat → Int32) (tn : Nat → Int32) (mn : Nat → Int32) (cx : Nat → Int32) (cy : Nat → Int32) (sa : Nat → Int32) (shs : Nat → Int32) (wh : Nat → Int32) (of9 : Nat → Int32) (we : Nat → Int32) (la : Nat → Int32) (lb : Nat → Int32) (lc : Nat → Int32) (ld : Nat → Int32) (P0 : Nat → Int32) (Q0 : Nat → Int32) (S0 : Nat → Int32) (ox : Nat → Int32) (oy : Nat → Int32) (mt : Nat → Int32) (wi : Nat → Int32) (ins : Nat → Int32) (T0 : Nat → Int32) (fl : Nat → Int32) (mk : Nat → Int32) (jx : Nat → Int32) (jy : Nat → Int32) (gr : Nat → Int32) (bs : Nat) (dn : Nat) (T : Nat) (ft : Nat) (Sn : Nat) (AD : Nat) (C : Nat) (ln : Nat) (FT : Nat → Nat) (cc : Nat → Nat) (W9 : Nat → Nat) (V : Nat → Nat → Nat → Int32) (VX : Nat → Nat → Int32) (VY : Nat → Nat → Int32) (cp cl U k9 : Nat) (hk9 : 6 * k9 + 6 ≤ L9) (hL9 : L9 ≤ 3072) (f0 : Nat) {H : Heap} {locs : List Loc} {ls : Array Slot} (hPD : zPD (dC, dI) classes (fun q : Nat => s.heap.size ≤ q) (((oc8 x (.ref sh) (.ref lw) (.ref ro) (.ref bq) (.ref bp) (.ref dq) (.ref dp) (.ref lv) (.ref sl) (nI dn) (nI bs) ul su) :: (oc10 sl mc9 (.ref ea) (nI T)) :: (oc7 sh (.ref fa) (nI ft)) :: (oq fa cF 200 FA) :: (oc3 lw (.ref dr) (.ref tg) (.ref wy) (.ref br) (.ref bo) (.ref aa)) :: (oc6 dr (.ref dx) (.ref dy) (nI nd) rd) :: (oa dx cI 40 P) :: (oa dy cI 40 Q) :: (oc6 tg (.ref tx) (.ref ty) (nI nt) rt) :: (oa tx cI 3 TX) :: (oa ty cI 3 TY) :: (oc6 wy (.ref wx) (.ref wz) (nI nw) rw) :: (oa wx cI 2 WX) :: (oa wz cI 2 WY) :: (oc0 br b1 b2 b3 b4) :: (oc0 bo b5 b6 b7 b8) :: (oa aa cI 40 AR) :: (oc5 ro (.ref za) (.ref zw) (.ref zx) (.ref zy) (.ref zg) nv) :: (oq za cF 200 RA) :: (oa zw cI 200 WT) :: (oa zx cI 400 EX) :: (oa zy cI 400 EY) :: (oa zg cI 400 GR) :: (oc0 bq c1 c2 c3 c4) :: (oc0 bp a1 a2 a3 a4) :: (oc2 dq y1 y2) :: (oc2 dp y3 y4) :: (oa lv cZ 200 LV) :: (om k0 a (upd I0 26 (nI ln)) J0) :: (oa (a 1) cI 201 kd) :: (oa (a 5) cI 201 st) :: (oa (a 7) cI 201 gb) :: (oa (a 10) cI 201 it) :: (oa (a 8) cI 201 pa) :: (oa (a 9) cI 201 pb) :: (oa (a 2) cI 201 rk) :: (oa (a 3) cI 201 wd) :: (oa (a 4) cI 201 tw) :: (oa (a 6) cZ 201 tn) :: (oa (a 11) cI 201 mn) :: (oa (a 12) cI 8040 cx) :: (oa (a 13) cI 8040 cy) :: (oa (a 27) cI 516 sa) :: (oa (a 28) cI (4096 * cp) shs) :: (oa (a 16) cI 514 wh) :: (oa (a 17) cI 514 of9) :: (oa (a 18) cI 514 we) :: (oa (a 22) cI (64 * cl) la) :: (oa (a 23) cI (64 * cl) lb) :: (oa (a 24) cI (64 * cl) lc) :: (oa (a 25) cI (64 * cl) ld) :: (oa (a 29) cI 42 P0) :: (oa (a 30) cI 42 Q0) :: (oa (a 32) cI 8 S0) :: (oa (a 33) cI 42 ox) :: (oa (a 34) cI 42 oy) :: (oa (a 37) cZ 201 mt) :: (oa (a 38) cZ 201 wi) :: (oa (a 39) cZ 8040 ins) :: (oa (a 40) cI 6 T0) :: (oa (a 43) cZ 40 fl) :: (oa (a 50) cZ 201 mk) :: (oa (a 51) cI 402 jx) :: (oa (a 52) cI 402 jy) :: (oa (a 53) cI 402 gr) :: []) ++ va_pl L f) H) (hS : va_S (fun q : Nat => s.heap.size ≤ q) s.heap H locs) (hl : lv_has ls 4 [(3, .int (nI (6 * k9))), (2, .ref k0), (1, .ref x), (0, .ref b)]) (hB : shB cI cO L f e0 FA ea bs dn T ft FT V VX VY tn rk wd tw pa pb wh of9 we kd st gb it mn cx cy) (hI : INV k9 Sn AD C cc W9 bs T ft cp ln cl FT V VX VY tn rk wd tw pa pb kd st it mn cx cy sa shs lb lc) (hM : I0 0 = nI ft ∧ I0 19 = nI dn ∧ I0 20 = nI (T - dn) ∧ I0 21 = nI bs) (hU : U ≤ Sn * (28 * (AD + C) + 1000) + 200 * (AD + C)) (hf0 : f0 < ft) (hv1 : xs (6 * k9 + 1) = nI f0) (hbad : ¬ ((st f0).toInt = 1 ∧ (1 ≤ (kd f0).toInt ∧ (kd f0).toInt ≤ 5) ∧ 0 ≤ (xs (6 * k9 + 2)).toInt ∧ (tn f0).toInt = 0)) (hnext : ∀ (cp1 cl1 U1 : Nat) (H : Heap) (locs : List Loc) (ls : Array Slot), lawI s dC dI cI cZ cF cO e0 mi x sl sh fa lw dr dx dy tg tx ty wy wx wz br bo aa ro za zw zx zy zg bq bp dq dp lv k0 (k9 + 1) cp1 cl1 U1 H → va_S (fun q : Nat => s.heap.size ≤ q) s.heap H locs → lv_has ls 4 [(3, .int (nI (6 * k9))), (2, .ref k0), (1, .ref x), (0, .ref b)] → W p l e room_1 s m #[Value.ref b] below meth c H locs (1000 + 1010 * (k9 + 1) + cp1 + 4 * cl1) (45000 + 8192 * cp1 + 512 * cl1 + U1) (lw_Z below #[Value.ref b] s) (F0 m 1081 ls [])) : W p l e room_1 s m #[Value.ref b] below meth c H locs (1000 + 1010 * k9 + cp + 4 * cl) (45000 + 8192 * cp + 512 * cl + U) (lw_Z below #[Value.ref b] s) (F0 m 306 ls []) := by
  obtain ⟨hP, hD⟩ := hPD
  obtain ⟨hx, hb, hr, hml, hown, hts1, hX, hbl, hlocks, hgv⟩ := id C0
  have hts : ∀ w9 ∈ ws0, w9.before #[Value.ref b] s = true := fun w9 h => hts1 w9 (List.mem_filter.mp h).1
  have hA : ∀ q : Nat, s.heap.size ≤ q → (fun q : Nat => s.heap.size ≤ q) q := fun _ h => h
  have hbA : ¬ (fun q : Nat => s.heap.size ≤ q) b := Nat.not_le.mpr hbl
  have hXN := hXL.1
  have hK3 := hK.sub [0, 1, 2] rfl
  obtain ⟨hm0, hm19, hm20, hm21⟩ := hM
  have hpo := shB_po hB
  have hK512 : k9 + 1 ≤ 512 := (by omega)
  have hwfS := hI.1.1
  have hbdC := hI.1.2.2.1
  have hT0 := hI.1.2.2.2
  have hd9 := hpo.1
  have h200t : ∀ t, bs ≤ t → t ≤ T → FT t ≤ 200 := fun t t1 t2 => Nat.le_trans (hpo.2.1 t T t1 t2 (Nat.le_refl _)) hd9.2.2.2.2
  have h200f : ft ≤ 200 := (by rw [hd9.2.2.2.1]; exact h200t dn hd9.1 hd9.2.1)
  have hrkA : ∀ q, lvF ft st tn q → 0 ≤ (rk q).toInt ∧ (rk q).toInt ≤ 9 := fun q hq => (hI.1.2.1 q (Nat.lt_of_lt_of_le hq.1 (by rw [hd9.2.2.2.1]; exact hpo.2.1 dn T hd9.1 hd9.2.1 (Nat.le_refl _)))).1
  have hwdA : ∀ q, q < ft → 0 ≤ (wd q).toInt ∧ (wd q).toInt ≤ 100 := fun q hq => (hI.1.2.1 q (Nat.lt_of_lt_of_le hq (by rw [hd9.2.2.2.1]; exact hpo.2.1 dn T hd9.1 hd9.2.1 (Nat.le_refl _)))).2
  have hcp5 := INV_cp hI (by omega)
  have hcp1 := hI.2.2.1.2.1
  have hcnt := hI.2.2.2.1
  have hlst := hI.2.2.2.2
  have hlb := mul_514 (a := Sn) (b := C) (by omega)
  have hftA := bdC_F hbdC
  have hrm := room_c (Sn := Sn) (AD := AD) (C := C) (c := cp) (cl := cl) (U := U) (by omega) hI.2.2.1.2.2.2.2.2 hlst.2.2.2.1 hU
  have hkr := (hwfS f0 hf0).1
  refine la_4_1 l C0 hk9 hL9 hS hl (hv1) (rfl) ?_
  obtain ⟨hPc, hDc, hFc⟩ := zc_part (cx := [_, _, _]) hP hD hS hA [0, 2, 3] rfl rfl
  refine zcall (st1 := [.int (-1)]) (va_runV (As := [.int (nI f0), .int (xs (6 * k9 + 2))]) (rest := []) ⟨hx, hb, hml, hown, hts⟩ (k_plainer_r l dC dI cI cZ cF H.size x sh lw ro bq bp dq dp lv sl (nI bs) ul su (nI dn) fa ft FA f0 L f kd st tn mn cx cy (xs (6 * k9 + 2)) (h200f) (hf0) (shB_vw hB) (hbad)) (csV_237 hts rfl rfl ⟨Nat.le_of_ble_eq_true rfl, Nat.le_of_ble_eq_true rfl⟩) (zPV2 (q0 := 0) (ci := 8) hPc hDc hK3 hXN rfl rfl) rfl rfl hl.1 rfl (lv_room (Nat.le_of_ble_eq_true rfl)) dL_law_317 ⟨show 1000 + 1010 * k9 + cp + 4 * cl ≤ 600000 by omega, show 45000 + 8192 * cp + 512 * cl + U ≤ 7302250 by omega⟩) hS hFc hFc rfl (fun t H locs ht hB hk1 hS => ?_)
  obtain ⟨q_1, q_2, hP1, hD1⟩ := hB
  rw [ht] at hP1
  obtain ⟨hP, hD⟩ := zkP (W2 := ((oc8 x (.ref sh) (.ref lw) (.ref ro) (.ref bq) (.ref bp) (.ref dq) (.ref dp) (.ref lv) (.ref sl) (nI dn) (nI bs) q_1 q_2) :: _ :: _ :: _ :: _ :: _ :: _ :: _ :: _ :: _ :: _ :: _ :: _ :: _ :: _ :: _ :: _ :: _ :: _ :: _ :: _ :: _ :: _ :: _ :: _ :: _ :: _ :: _ :: _ :: _ :: _ :: _ :: _ :: _ :: _ :: _ :: _ :: _ :: _ :: _ :: _ :: _ :: _ :: _ :: _ :: _ :: _ :: _ :: _ :: _ :: _ :: _ :: _ :: _ :: _ :: _ :: _ :: _ :: _ :: _ :: _ :: _ :: _ :: _ :: _ :: [])) hP hD [0, 2, 3] (1 :: 4 :: 5 :: 6 :: 7 :: 8 :: 9 :: 10 :: 11 :: 12 :: 13 :: 14 :: 15 :: 16 :: 17 :: 18 :: 19 :: 20 :: 21 :: 22 :: 23 :: 24 :: 25 :: 26 :: 27 :: 28 :: 29 :: 30 :: 31 :: 32 :: 33 :: 34 :: 35 :: 36 :: 37 :: 38 :: 39 :: 40 :: 41 :: 42 :: 43 :: 44 :: 45 :: 46 :: 47 :: 48 :: 49 :: 50 :: 51 :: 52 :: 53 :: 54 :: 55 :: 56 :: 57 :: 58 :: 59 :: 60 :: 61 :: 62 :: 63 :: 64 :: []) (1 :: 4 :: 5 :: 6 :: 7 :: 8 :: 9 :: 10 :: 11 :: 12 :: 13 :: 14 :: 15 :: 16 :: 17 :: 18 :: 19 :: 20 :: 21 :: 22 :: 23 :: 24 :: 25 :: 26 :: 27 :: 28 :: 29 :: 30 :: 31 :: 32 :: 33 :: 34 :: 35 :: 36 :: 37 :: 38 :: 39 :: 40 :: 41 :: 42 :: 43 :: 44 :: 45 :: 46 :: 47 :: 48 :: 49 :: 50 :: 51 :: 52 :: 53 :: 54 :: 55 :: 56 :: 57 :: 58 :: 59 :: 60 :: 61 :: 62 :: 63 :: 64 :: []) [0, 2, 3] (62 :: 0 :: 63 :: 64 :: 1 :: 2 :: 3 :: 4 :: 5 :: 6 :: 7 :: 8 :: 9 :: 10 :: 11 :: 12 :: 13 :: 14 :: 15 :: 16 :: 17 :: 18 :: 19 :: 20 :: 21 :: 22 :: 23 :: 24 :: 25 :: 26 :: 27 :: 28 :: 29 :: 30 :: 31 :: 32 :: 33 :: 34 :: 35 :: 36 :: 37 :: 38 :: 39 :: 40 :: 41 :: 42 :: 43 :: 44 :: 45 :: 46 :: 47 :: 48 :: 49 :: 50 :: 51 :: 52 :: 53 :: 54 :: 55 :: 56 :: 57 :: 58 :: 59 :: 60 :: 61 :: []) 65 rfl rfl rfl rfl rfl rfl rfl rfl rfl hk1 hFc hP1 hD1
  clear hk1 hPc hDc hFc hP1 hD1 ht
  refine lv_pop hx hb dL_law_320 rfl ?_
  refine la_4_2 l C0 hk9 hL9 hS hl (hv1) (rfl) ?_
  obtain ⟨hPc, hDc, hFc⟩ := zc_sub (wc := [_, _, _, _]) hP hD hS hA [28, 30, 38, 29] rfl rfl
  refine zcall (st1 := [.int (-1)]) (va_runV (As := [.int (nI f0), .int (xs (6 * k9 + 2))]) (rest := []) ⟨hx, hb, hml, hown, hts⟩ (k_M_plainer_r l dC dI cI cZ cF H.size k0 a (upd I0 26 (nI ln)) J0 f0 ft (xs (6 * k9 + 2)) st tn kd (hm0) (h200f) (by first | with_reducible assumption | omega) (by first | with_reducible assumption | omega)) (csV_238 hts rfl rfl ⟨Nat.le_of_ble_eq_true rfl, Nat.le_of_ble_eq_true rfl⟩) (zPV2 (q0 := 0) (ci := 9) hPc hDc hK3 hXN rfl rfl) rfl rfl hl.1 rfl (lv_room (Nat.le_of_ble_eq_true rfl)) dL_law_332 ⟨show 1000 + 1010 * k9 + cp + 4 * cl ≤ 600000 by omega, show 45000 + 8192 * cp + 512 * cl + U ≤ 7302250 by omega⟩) hS hFc hFc rfl (fun t H locs ht hB hk1 hS => ?_)
  obtain ⟨q_3, hP1, hD1⟩ := hB
  rw [ht] at hP1
  obtain ⟨hP, hD⟩ := zkQ (W2 := (_ :: _ :: _ :: _ :: _ :: _ :: _ :: _ :: _ :: _ :: _ :: _ :: _ :: _ :: _ :: _ :: _ :: _ :: _ :: _ :: _ :: _ :: _ :: _ :: _ :: _ :: _ :: _ :: (om k0 a (upd (upd (upd I0 14 q_3) 15 (I0 15)) 26 (nI ln)) J0) :: _ :: _ :: _ :: _ :: _ :: _ :: _ :: _ :: _ :: _ :: _ :: _ :: _ :: _ :: _ :: _ :: _ :: _ :: _ :: _ :: _ :: _ :: _ :: _ :: _ :: _ :: _ :: _ :: _ :: _ :: _ :: _ :: _ :: _ :: _ :: _ :: [])) hP hD [28, 30, 38, 29] (0 :: 1 :: 2 :: 3 :: 4 :: 5 :: 6 :: 7 :: 8 :: 9 :: 10 :: 11 :: 12 :: 13 :: 14 :: 15 :: 16 :: 17 :: 18 :: 19 :: 20 :: 21 :: 22 :: 23 :: 24 :: 25 :: 26 :: 27 :: 31 :: 32 :: 33 :: 34 :: 35 :: 36 :: 37 :: 39 :: 40 :: 41 :: 42 :: 43 :: 44 :: 45 :: 46 :: 47 :: 48 :: 49 :: 50 :: 51 :: 52 :: 53 :: 54 :: 55 :: 56 :: 57 :: 58 :: 59 :: 60 :: 61 :: 62 :: 63 :: 64 :: []) (0 :: 1 :: 2 :: 3 :: 4 :: 5 :: 6 :: 7 :: 8 :: 9 :: 10 :: 11 :: 12 :: 13 :: 14 :: 15 :: 16 :: 17 :: 18 :: 19 :: 20 :: 21 :: 22 :: 23 :: 24 :: 25 :: 26 :: 27 :: 31 :: 32 :: 33 :: 34 :: 35 :: 36 :: 37 :: 39 :: 40 :: 41 :: 42 :: 43 :: 44 :: 45 :: 46 :: 47 :: 48 :: 49 :: 50 :: 51 :: 52 :: 53 :: 54 :: 55 :: 56 :: 57 :: 58 :: 59 :: 60 :: 61 :: 62 :: 63 :: 64 :: []) [28, 30, 38, 29] (0 :: 1 :: 2 :: 3 :: 4 :: 5 :: 6 :: 7 :: 8 :: 9 :: 10 :: 11 :: 12 :: 13 :: 14 :: 15 :: 16 :: 17 :: 18 :: 19 :: 20 :: 21 :: 22 :: 23 :: 24 :: 25 :: 26 :: 27 :: 61 :: 64 :: 62 :: 28 :: 29 :: 30 :: 31 :: 32 :: 33 :: 34 :: 63 :: 35 :: 36 :: 37 :: 38 :: 39 :: 40 :: 41 :: 42 :: 43 :: 44 :: 45 :: 46 :: 47 :: 48 :: 49 :: 50 :: 51 :: 52 :: 53 :: 54 :: 55 :: 56 :: 57 :: 58 :: 59 :: 60 :: []) 65 rfl rfl rfl rfl rfl rfl rfl rfl rfl hk1 hFc hP1 hD1
  clear hk1 hPc hDc hFc hP1 hD1 ht
  refine lv_pop hx hb dL_law_335 rfl ?_
  refine lv_goto (tgt := 1081) hx hb dL_law_336 rfl ?_
  obtain ⟨hP9, hD9⟩ := zq_part (cx := (_ :: _ :: _ :: _ :: _ :: _ :: _ :: _ :: _ :: _ :: _ :: _ :: _ :: _ :: _ :: _ :: _ :: _ :: _ :: _ :: _ :: _ :: _ :: _ :: _ :: _ :: _ :: _ :: _ :: _ :: _ :: _ :: _ :: _ :: _ :: _ :: _ :: _ :: _ :: _ :: _ :: _ :: _ :: _ :: _ :: _ :: _ :: _ :: _ :: _ :: _ :: _ :: _ :: _ :: _ :: _ :: _ :: _ :: _ :: _ :: _ :: _ :: _ :: _ :: _ :: [])) hP hD (0 :: 1 :: 2 :: 3 :: 4 :: 5 :: 6 :: 7 :: 8 :: 9 :: 10 :: 11 :: 12 :: 13 :: 14 :: 15 :: 16 :: 17 :: 18 :: 19 :: 20 :: 21 :: 22 :: 23 :: 24 :: 25 :: 26 :: 27 :: 28 :: 29 :: 30 :: 31 :: 32 :: 33 :: 34 :: 35 :: 36 :: 37 :: 38 :: 39 :: 40 :: 41 :: 42 :: 43 :: 44 :: 45 :: 46 :: 47 :: 48 :: 49 :: 50 :: 51 :: 52 :: 53 :: 54 :: 55 :: 56 :: 57 :: 58 :: 59 :: 60 :: 61 :: 62 :: 63 :: 64 :: []) rfl rfl
  refine W.widen (k := 1000 + 1010 * (k9 + 1) + cp + 4 * cl) (n := 45000 + 8192 * cp + 512 * cl + U) (by omega) (by omega) ?_
  have e26 : upd (upd (upd (upd I0 14 q_3) 15 (I0 15)) 26 (nI ln)) 26 (nI ln) = (upd (upd (upd I0 14 q_3) 15 (I0 15)) 26 (nI ln)) := up_same rfl
  exact hnext cp cl U H locs ls (lawI_in L f FA ea nd nt nw q_1 q_2 mc9 rd rt rw P Q TX TY WX WY AR b1 b2 b3 b4 b5 b6 b7 b8 c1 c2 c3 c4 a1 a2 a3 a4 nv RA WT EX EY GR LV y1 y2 y3 y4 a (upd (upd (upd I0 14 q_3) 15 (I0 15)) 26 (nI ln)) J0 kd st gb it pa pb rk wd tw tn mn cx cy sa shs wh of9 we la lb lc ld P0 Q0 S0 ox oy mt wi ins T0 fl mk jx jy gr bs dn T ft Sn AD C ln FT cc W9 V VX VY (by rw [e26]; exact hP9) (by rw [e26]; exact hD9) (hB) (INV_K hI) ⟨hm0, hm19, hm20, hm21⟩ (by omega)) hS (lv_sub hl [0, 1, 2, 3] rfl)
end
section
set_option maxHeartbeats 4000000 in
set_option maxRecDepth 100000 in
theorem lc_smooth_r {p : Program} {e : Env} {s : State} {m : MethodId} {below : List Frame} {meth : Method} {c : Code} (l : Launch) {b L9 : Nat} {xs : Nat → Int32} (C0 : lw_At p s m meth c b L9 xs) (dC : Nat → ClassId) (dI : Nat → Nat → Nat) (cI cZ cF cO : ClassId) (e0 mi : Nat) (x sl sh fa lw dr dx dy tg tx ty wy wx wz br bo aa ro za zw zx zy zg bq bp dq dp lv k0 : Nat) (hK : va_K (dC, dI) classes (zTyO cI cZ cF cO) s) (hXL : zXL e0 mi (fun q : Nat => s.heap.size ≤ q) s) (L : List Nat) (f : Nat → va_E) (FA : Nat → Option Nat) (ea : Nat) (nd : Nat) (nt : Nat) (nw : Nat) (ul : Int32) (su : Int32) (mc9 : Int32) (rd : Int32) (rt : Int32) (rw : Int32) (P : Nat → Int32) (Q : Nat → Int32) (TX : Nat → Int32) (TY : Nat → Int32) (WX : Nat → Int32) (WY : Nat → Int32) (AR : Nat → Int32) (b1 : Int32) (b2 : Int32) (b3 : Int32) (b4 : Int32) (b5 : Int32) (b6 : Int32) (b7 : Int32) (b8 : Int32) (c1 : Int32) (c2 : Int32) (c3 : Int32) (c4 : Int32) (a1 : Int32) (a2 : Int32) (a3 : Int32) (a4 : Int32) (nv : Int32) (RA : Nat → Option Nat) (WT : Nat → Int32) (EX : Nat → Int32) (EY : Nat → Int32) (GR : Nat → Int32) (LV : Nat → Int32) (y1 : Int64) (y2 : Int64) (y3 : Int64) (y4 : Int64) (a : Nat → Nat) (I0 : Nat → Int32) (J0 : Nat → Int64) (kd : Nat → Int32) (st : Nat → Int32) (gb : Nat → Int32) (it : Nat → Int32) (pa : Nat → Int32) (pb : Nat → Int32) (rk : Nat → Int32) (wd : Nat → Int32) (tw : Nat → Int32) (tn : Nat → Int32) (mn : Nat → Int32) (cx : Nat → Int32) (cy : Nat → Int32) (sa : Nat → Int32) (shs : Nat → Int32) (wh : Nat → Int32) (of9 : Nat → Int32) (we : Nat → Int32) (la : Nat → Int32) (lb : Nat → Int32) (lc : Nat → Int32) (ld : Nat → Int32) (P0 : Nat → Int32) (Q0 : Nat → Int32) (S0 : Nat → Int32) (ox : Nat → Int32) (oy : Nat → Int32) (mt : Nat → Int32) (wi : Nat → Int32) (ins : Nat → Int32) (T0 : Nat → Int32) (fl : Nat → Int32) (mk : Nat → Int32) (jx : Nat → Int32) (jy : Nat → Int32) (gr : Nat → Int32) (bs : Nat) (dn : Nat) (T : Nat) (ft : Nat) (Sn : Nat) (AD : Nat) (C : Nat) (ln : Nat) (FT : Nat → Nat) (cc : Nat → Nat) (W9 : Nat → Nat) (V : Nat → Nat → Nat → Int32) (VX : Nat → Nat → Int32) (VY : Nat → Nat → Int32) (cp cl U k9 : Nat) (hk9 : 6 * k9 + 6 ≤ L9) (hL9 : L9 ≤ 3072) (f0 : Nat) {H : Heap} {locs : List Loc} {ls : Array Slot} (hPD : zPD (dC, dI) classes (fun q : Nat => s.heap.size ≤ q) (((oc8 x (.ref sh) (.ref lw) (.ref ro) (.ref bq) (.ref bp) (.ref dq) (.ref dp) (.ref lv) (.ref sl) (nI dn) (nI bs) ul su) :: (oc10 sl mc9 (.ref ea) (nI T)) :: (oc7 sh (.ref fa) (nI ft)) :: (oq fa cF 200 FA) :: (oc3 lw (.ref dr) (.ref tg) (.ref wy) (.ref br) (.ref bo) (.ref aa)) :: (oc6 dr (.ref dx) (.ref dy) (nI nd) rd) :: (oa dx cI 40 P) :: (oa dy cI 40 Q) :: (oc6 tg (.ref tx) (.ref ty) (nI nt) rt) :: (oa tx cI 3 TX) :: (oa ty cI 3 TY) :: (oc6 wy (.ref wx) (.ref wz) (nI nw) rw) :: (oa wx cI 2 WX) :: (oa wz cI 2 WY) :: (oc0 br b1 b2 b3 b4) :: (oc0 bo b5 b6 b7 b8) :: (oa aa cI 40 AR) :: (oc5 ro (.ref za) (.ref zw) (.ref zx) (.ref zy) (.ref zg) nv) :: (oq za cF 200 RA) :: (oa zw cI 200 WT) :: (oa zx cI 400 EX) :: (oa zy cI 400 EY) :: (oa zg cI 400 GR) :: (oc0 bq c1 c2 c3 c4) :: (oc0 bp a1 a2 a3 a4) :: (oc2 dq y1 y2) :: (oc2 dp y3 y4) :: (oa lv cZ 200 LV) :: (om k0 a (upd I0 26 (nI ln)) J0) :: (oa (a 1) cI 201 kd) :: (oa (a 5) cI 201 st) :: (oa (a 7) cI 201 gb) :: (oa (a 10) cI 201 it) :: (oa (a 8) cI 201 pa) :: (oa (a 9) cI 201 pb) :: (oa (a 2) cI 201 rk) :: (oa (a 3) cI 201 wd) :: (oa (a 4) cI 201 tw) :: (oa (a 6) cZ 201 tn) :: (oa (a 11) cI 201 mn) :: (oa (a 12) cI 8040 cx) :: (oa (a 13) cI 8040 cy) :: (oa (a 27) cI 516 sa) :: (oa (a 28) cI (4096 * cp) shs) :: (oa (a 16) cI 514 wh) :: (oa (a 17) cI 514 of9) :: (oa (a 18) cI 514 we) :: (oa (a 22) cI (64 * cl) la) :: (oa (a 23) cI (64 * cl) lb) :: (oa (a 24) cI (64 * cl) lc) :: (oa (a 25) cI (64 * cl) ld) :: (oa (a 29) cI 42 P0) :: (oa (a 30) cI 42 Q0) :: (oa (a 32) cI 8 S0) :: (oa (a 33) cI 42 ox) :: (oa (a 34) cI 42 oy) :: (oa (a 37) cZ 201 mt) :: (oa (a 38) cZ 201 wi) :: (oa (a 39) cZ 8040 ins) :: (oa (a 40) cI 6 T0) :: (oa (a 43) cZ 40 fl) :: (oa (a 50) cZ 201 mk) :: (oa (a 51) cI 402 jx) :: (oa (a 52) cI 402 jy) :: (oa (a 53) cI 402 gr) :: []) ++ va_pl L f) H) (hS : va_S (fun q : Nat => s.heap.size ≤ q) s.heap H locs) (hl : lv_has ls 4 [(3, .int (nI (6 * k9))), (2, .ref k0), (1, .ref x), (0, .ref b)]) (hB : shB cI cO L f e0 FA ea bs dn T ft FT V VX VY tn rk wd tw pa pb wh of9 we kd st gb it mn cx cy) (hI : INV k9 Sn AD C cc W9 bs T ft cp ln cl FT V VX VY tn rk wd tw pa pb kd st it mn cx cy sa shs lb lc) (hM : I0 0 = nI ft ∧ I0 19 = nI dn ∧ I0 20 = nI (T - dn) ∧ I0 21 = nI bs) (hU : U ≤ Sn * (28 * (AD + C) + 1000) + 200 * (AD + C)) (hf0 : f0 < ft) (hv1 : xs (6 * k9 + 1) = nI f0) (hbad : ¬ ((st f0).toInt = 1 ∧ (1 ≤ (kd f0).toInt ∧ (kd f0).toInt ≤ 5) ∧ (tn f0).toInt = 0)) (hnext : ∀ (cp1 cl1 U1 : Nat) (H : Heap) (locs : List Loc) (ls : Array Slot), lawI s dC dI cI cZ cF cO e0 mi x sl sh fa lw dr dx dy tg tx ty wy wx wz br bo aa ro za zw zx zy zg bq bp dq dp lv k0 (k9 + 1) cp1 cl1 U1 H → va_S (fun q : Nat => s.heap.size ≤ q) s.heap H locs → lv_has ls 4 [(3, .int (nI (6 * k9))), (2, .ref k0), (1, .ref x), (0, .ref b)] → W p l e room_1 s m #[Value.ref b] below meth c H locs (1000 + 1010 * (k9 + 1) + cp1 + 4 * cl1) (45000 + 8192 * cp1 + 512 * cl1 + U1) (lw_Z below #[Value.ref b] s) (F0 m 1081 ls [])) : W p l e room_1 s m #[Value.ref b] below meth c H locs (1000 + 1010 * k9 + cp + 4 * cl) (45000 + 8192 * cp + 512 * cl + U) (lw_Z below #[Value.ref b] s) (F0 m 339 ls []) := by
  obtain ⟨hP, hD⟩ := hPD
  obtain ⟨hx, hb, hr, hml, hown, hts1, hX, hbl, hlocks, hgv⟩ := id C0
  have hts : ∀ w9 ∈ ws0, w9.before #[Value.ref b] s = true := fun w9 h => hts1 w9 (List.mem_filter.mp h).1
  have hA : ∀ q : Nat, s.heap.size ≤ q → (fun q : Nat => s.heap.size ≤ q) q := fun _ h => h
  have hbA : ¬ (fun q : Nat => s.heap.size ≤ q) b := Nat.not_le.mpr hbl
  have hXN := hXL.1
  have hK3 := hK.sub [0, 1, 2] rfl
  obtain ⟨hm0, hm19, hm20, hm21⟩ := hM
  have hpo := shB_po hB
  have hK512 : k9 + 1 ≤ 512 := (by omega)
  have hwfS := hI.1.1
  have hbdC := hI.1.2.2.1
  have hT0 := hI.1.2.2.2
  have hd9 := hpo.1
  have h200t : ∀ t, bs ≤ t → t ≤ T → FT t ≤ 200 := fun t t1 t2 => Nat.le_trans (hpo.2.1 t T t1 t2 (Nat.le_refl _)) hd9.2.2.2.2
  have h200f : ft ≤ 200 := (by rw [hd9.2.2.2.1]; exact h200t dn hd9.1 hd9.2.1)
  have hrkA : ∀ q, lvF ft st tn q → 0 ≤ (rk q).toInt ∧ (rk q).toInt ≤ 9 := fun q hq => (hI.1.2.1 q (Nat.lt_of_lt_of_le hq.1 (by rw [hd9.2.2.2.1]; exact hpo.2.1 dn T hd9.1 hd9.2.1 (Nat.le_refl _)))).1
  have hwdA : ∀ q, q < ft → 0 ≤ (wd q).toInt ∧ (wd q).toInt ≤ 100 := fun q hq => (hI.1.2.1 q (Nat.lt_of_lt_of_le hq (by rw [hd9.2.2.2.1]; exact hpo.2.1 dn T hd9.1 hd9.2.1 (Nat.le_refl _)))).2
  have hcp5 := INV_cp hI (by omega)
  have hcp1 := hI.2.2.1.2.1
  have hcnt := hI.2.2.2.1
  have hlst := hI.2.2.2.2
  have hlb := mul_514 (a := Sn) (b := C) (by omega)
  have hftA := bdC_F hbdC
  have hrm := room_c (Sn := Sn) (AD := AD) (C := C) (c := cp) (cl := cl) (U := U) (by omega) hI.2.2.1.2.2.2.2.2 hlst.2.2.2.1 hU
  have hkr := (hwfS f0 hf0).1
  refine la_5_1 l C0 hk9 hL9 hS hl (hv1) ?_
  obtain ⟨hPc, hDc, hFc⟩ := zc_part (cx := [_, _, _]) hP hD hS hA [0, 2, 3] rfl rfl
  refine zcall (st1 := [.int 0]) (va_runV (As := [.int (nI f0)]) (rest := []) ⟨hx, hb, hml, hown, hts⟩ (k_smooth_r l dC dI cI cZ cF H.size x sh lw ro bq bp dq dp lv sl (nI bs) ul su (nI dn) fa ft FA f0 L f kd st tn mn cx cy (h200f) (hf0) (shB_vw hB) (hbad)) (csV_239 hts rfl rfl ⟨Nat.le_of_ble_eq_true rfl, Nat.le_of_ble_eq_true rfl⟩) (zPV2 (q0 := 0) (ci := 8) hPc hDc hK3 hXN rfl rfl) rfl rfl hl.1 rfl (lv_room (Nat.le_of_ble_eq_true rfl)) dL_law_345 ⟨show 1000 + 1010 * k9 + cp + 4 * cl ≤ 600000 by omega, show 45000 + 8192 * cp + 512 * cl + U ≤ 7302250 by omega⟩) hS hFc hFc rfl (fun t H locs ht hB hk1 hS => ?_)
  obtain ⟨q_1, q_2, hP1, hD1⟩ := hB
  rw [ht] at hP1
  obtain ⟨hP, hD⟩ := zkP (W2 := ((oc8 x (.ref sh) (.ref lw) (.ref ro) (.ref bq) (.ref bp) (.ref dq) (.ref dp) (.ref lv) (.ref sl) (nI dn) (nI bs) q_1 q_2) :: _ :: _ :: _ :: _ :: _ :: _ :: _ :: _ :: _ :: _ :: _ :: _ :: _ :: _ :: _ :: _ :: _ :: _ :: _ :: _ :: _ :: _ :: _ :: _ :: _ :: _ :: _ :: _ :: _ :: _ :: _ :: _ :: _ :: _ :: _ :: _ :: _ :: _ :: _ :: _ :: _ :: _ :: _ :: _ :: _ :: _ :: _ :: _ :: _ :: _ :: _ :: _ :: _ :: _ :: _ :: _ :: _ :: _ :: _ :: _ :: _ :: _ :: _ :: _ :: [])) hP hD [0, 2, 3] (1 :: 4 :: 5 :: 6 :: 7 :: 8 :: 9 :: 10 :: 11 :: 12 :: 13 :: 14 :: 15 :: 16 :: 17 :: 18 :: 19 :: 20 :: 21 :: 22 :: 23 :: 24 :: 25 :: 26 :: 27 :: 28 :: 29 :: 30 :: 31 :: 32 :: 33 :: 34 :: 35 :: 36 :: 37 :: 38 :: 39 :: 40 :: 41 :: 42 :: 43 :: 44 :: 45 :: 46 :: 47 :: 48 :: 49 :: 50 :: 51 :: 52 :: 53 :: 54 :: 55 :: 56 :: 57 :: 58 :: 59 :: 60 :: 61 :: 62 :: 63 :: 64 :: []) (1 :: 4 :: 5 :: 6 :: 7 :: 8 :: 9 :: 10 :: 11 :: 12 :: 13 :: 14 :: 15 :: 16 :: 17 :: 18 :: 19 :: 20 :: 21 :: 22 :: 23 :: 24 :: 25 :: 26 :: 27 :: 28 :: 29 :: 30 :: 31 :: 32 :: 33 :: 34 :: 35 :: 36 :: 37 :: 38 :: 39 :: 40 :: 41 :: 42 :: 43 :: 44 :: 45 :: 46 :: 47 :: 48 :: 49 :: 50 :: 51 :: 52 :: 53 :: 54 :: 55 :: 56 :: 57 :: 58 :: 59 :: 60 :: 61 :: 62 :: 63 :: 64 :: []) [0, 2, 3] (62 :: 0 :: 63 :: 64 :: 1 :: 2 :: 3 :: 4 :: 5 :: 6 :: 7 :: 8 :: 9 :: 10 :: 11 :: 12 :: 13 :: 14 :: 15 :: 16 :: 17 :: 18 :: 19 :: 20 :: 21 :: 22 :: 23 :: 24 :: 25 :: 26 :: 27 :: 28 :: 29 :: 30 :: 31 :: 32 :: 33 :: 34 :: 35 :: 36 :: 37 :: 38 :: 39 :: 40 :: 41 :: 42 :: 43 :: 44 :: 45 :: 46 :: 47 :: 48 :: 49 :: 50 :: 51 :: 52 :: 53 :: 54 :: 55 :: 56 :: 57 :: 58 :: 59 :: 60 :: 61 :: []) 65 rfl rfl rfl rfl rfl rfl rfl rfl rfl hk1 hFc hP1 hD1
  clear hk1 hPc hDc hFc hP1 hD1 ht
  refine lv_pop hx hb dL_law_348 rfl ?_
  refine la_5_2 l C0 hk9 hL9 hS hl (hv1) ?_
  obtain ⟨hPc, hDc, hFc⟩ := zc_sub (wc := [_, _, _, _]) hP hD hS hA [28, 30, 38, 29] rfl rfl
  refine zcall (st1 := [.int 0]) (va_runV (As := [.int (nI f0)]) (rest := []) ⟨hx, hb, hml, hown, hts⟩ (k_M_smooth_r l dC dI cI cZ cF H.size k0 a (upd I0 26 (nI ln)) J0 f0 ft st tn kd (hm0) (h200f) (by first | with_reducible assumption | omega) (by first | with_reducible assumption | omega)) (csV_240 hts rfl rfl ⟨Nat.le_of_ble_eq_true rfl, Nat.le_of_ble_eq_true rfl⟩) (zPV2 (q0 := 0) (ci := 9) hPc hDc hK3 hXN rfl rfl) rfl rfl hl.1 rfl (lv_room (Nat.le_of_ble_eq_true rfl)) dL_law_355 ⟨show 1000 + 1010 * k9 + cp + 4 * cl ≤ 600000 by omega, show 45000 + 8192 * cp + 512 * cl + U ≤ 7302250 by omega⟩) hS hFc hFc rfl (fun t H locs ht hB hk1 hS => ?_)
  obtain ⟨q_3, hP1, hD1⟩ := hB
  rw [ht] at hP1
  obtain ⟨hP, hD⟩ := zkQ (W2 := (_ :: _ :: _ :: _ :: _ :: _ :: _ :: _ :: _ :: _ :: _ :: _ :: _ :: _ :: _ :: _ :: _ :: _ :: _ :: _ :: _ :: _ :: _ :: _ :: _ :: _ :: _ :: _ :: (om k0 a (upd (upd (upd I0 14 q_3) 15 (I0 15)) 26 (nI ln)) J0) :: _ :: _ :: _ :: _ :: _ :: _ :: _ :: _ :: _ :: _ :: _ :: _ :: _ :: _ :: _ :: _ :: _ :: _ :: _ :: _ :: _ :: _ :: _ :: _ :: _ :: _ :: _ :: _ :: _ :: _ :: _ :: _ :: _ :: _ :: _ :: _ :: [])) hP hD [28, 30, 38, 29] (0 :: 1 :: 2 :: 3 :: 4 :: 5 :: 6 :: 7 :: 8 :: 9 :: 10 :: 11 :: 12 :: 13 :: 14 :: 15 :: 16 :: 17 :: 18 :: 19 :: 20 :: 21 :: 22 :: 23 :: 24 :: 25 :: 26 :: 27 :: 31 :: 32 :: 33 :: 34 :: 35 :: 36 :: 37 :: 39 :: 40 :: 41 :: 42 :: 43 :: 44 :: 45 :: 46 :: 47 :: 48 :: 49 :: 50 :: 51 :: 52 :: 53 :: 54 :: 55 :: 56 :: 57 :: 58 :: 59 :: 60 :: 61 :: 62 :: 63 :: 64 :: []) (0 :: 1 :: 2 :: 3 :: 4 :: 5 :: 6 :: 7 :: 8 :: 9 :: 10 :: 11 :: 12 :: 13 :: 14 :: 15 :: 16 :: 17 :: 18 :: 19 :: 20 :: 21 :: 22 :: 23 :: 24 :: 25 :: 26 :: 27 :: 31 :: 32 :: 33 :: 34 :: 35 :: 36 :: 37 :: 39 :: 40 :: 41 :: 42 :: 43 :: 44 :: 45 :: 46 :: 47 :: 48 :: 49 :: 50 :: 51 :: 52 :: 53 :: 54 :: 55 :: 56 :: 57 :: 58 :: 59 :: 60 :: 61 :: 62 :: 63 :: 64 :: []) [28, 30, 38, 29] (0 :: 1 :: 2 :: 3 :: 4 :: 5 :: 6 :: 7 :: 8 :: 9 :: 10 :: 11 :: 12 :: 13 :: 14 :: 15 :: 16 :: 17 :: 18 :: 19 :: 20 :: 21 :: 22 :: 23 :: 24 :: 25 :: 26 :: 27 :: 61 :: 64 :: 62 :: 28 :: 29 :: 30 :: 31 :: 32 :: 33 :: 34 :: 63 :: 35 :: 36 :: 37 :: 38 :: 39 :: 40 :: 41 :: 42 :: 43 :: 44 :: 45 :: 46 :: 47 :: 48 :: 49 :: 50 :: 51 :: 52 :: 53 :: 54 :: 55 :: 56 :: 57 :: 58 :: 59 :: 60 :: []) 65 rfl rfl rfl rfl rfl rfl rfl rfl rfl hk1 hFc hP1 hD1
  clear hk1 hPc hDc hFc hP1 hD1 ht
  refine lv_pop hx hb dL_law_358 rfl ?_
  refine lv_goto (tgt := 1081) hx hb dL_law_359 rfl ?_
  obtain ⟨hP9, hD9⟩ := zq_part (cx := (_ :: _ :: _ :: _ :: _ :: _ :: _ :: _ :: _ :: _ :: _ :: _ :: _ :: _ :: _ :: _ :: _ :: _ :: _ :: _ :: _ :: _ :: _ :: _ :: _ :: _ :: _ :: _ :: _ :: _ :: _ :: _ :: _ :: _ :: _ :: _ :: _ :: _ :: _ :: _ :: _ :: _ :: _ :: _ :: _ :: _ :: _ :: _ :: _ :: _ :: _ :: _ :: _ :: _ :: _ :: _ :: _ :: _ :: _ :: _ :: _ :: _ :: _ :: _ :: _ :: [])) hP hD (0 :: 1 :: 2 :: 3 :: 4 :: 5 :: 6 :: 7 :: 8 :: 9 :: 10 :: 11 :: 12 :: 13 :: 14 :: 15 :: 16 :: 17 :: 18 :: 19 :: 20 :: 21 :: 22 :: 23 :: 24 :: 25 :: 26 :: 27 :: 28 :: 29 :: 30 :: 31 :: 32 :: 33 :: 34 :: 35 :: 36 :: 37 :: 38 :: 39 :: 40 :: 41 :: 42 :: 43 :: 44 :: 45 :: 46 :: 47 :: 48 :: 49 :: 50 :: 51 :: 52 :: 53 :: 54 :: 55 :: 56 :: 57 :: 58 :: 59 :: 60 :: 61 :: 62 :: 63 :: 64 :: []) rfl rfl
  refine W.widen (k := 1000 + 1010 * (k9 + 1) + cp + 4 * cl) (n := 45000 + 8192 * cp + 512 * cl + U) (by omega) (by omega) ?_
  have e26 : upd (upd (upd (upd I0 14 q_3) 15 (I0 15)) 26 (nI ln)) 26 (nI ln) = (upd (upd (upd I0 14 q_3) 15 (I0 15)) 26 (nI ln)) := up_same rfl
  exact hnext cp cl U H locs ls (lawI_in L f FA ea nd nt nw q_1 q_2 mc9 rd rt rw P Q TX TY WX WY AR b1 b2 b3 b4 b5 b6 b7 b8 c1 c2 c3 c4 a1 a2 a3 a4 nv RA WT EX EY GR LV y1 y2 y3 y4 a (upd (upd (upd I0 14 q_3) 15 (I0 15)) 26 (nI ln)) J0 kd st gb it pa pb rk wd tw tn mn cx cy sa shs wh of9 we la lb lc ld P0 Q0 S0 ox oy mt wi ins T0 fl mk jx jy gr bs dn T ft Sn AD C ln FT cc W9 V VX VY (by rw [e26]; exact hP9) (by rw [e26]; exact hD9) (hB) (INV_K hI) ⟨hm0, hm19, hm20, hm21⟩ (by omega)) hS (lv_sub hl [0, 1, 2, 3] rfl)
set_option maxHeartbeats 4000000 in
set_option maxRecDepth 100000 in
theorem lc_grow_r {p : Program} {e : Env} {s : State} {m : MethodId} {below : List Frame} {meth : Method} {c : Code} (l : Launch) {b L9 : Nat} {xs : Nat → Int32} (C0 : lw_At p s m meth c b L9 xs) (dC : Nat → ClassId) (dI : Nat → Nat → Nat) (cI cZ cF cO : ClassId) (e0 mi : Nat) (x sl sh fa lw dr dx dy tg tx ty wy wx wz br bo aa ro za zw zx zy zg bq bp dq dp lv k0 : Nat) (hK : va_K (dC, dI) classes (zTyO cI cZ cF cO) s) (hXL : zXL e0 mi (fun q : Nat => s.heap.size ≤ q) s) (L : List Nat) (f : Nat → va_E) (FA : Nat → Option Nat) (ea : Nat) (nd : Nat) (nt : Nat) (nw : Nat) (ul : Int32) (su : Int32) (mc9 : Int32) (rd : Int32) (rt : Int32) (rw : Int32) (P : Nat → Int32) (Q : Nat → Int32) (TX : Nat → Int32) (TY : Nat → Int32) (WX : Nat → Int32) (WY : Nat → Int32) (AR : Nat → Int32) (b1 : Int32) (b2 : Int32) (b3 : Int32) (b4 : Int32) (b5 : Int32) (b6 : Int32) (b7 : Int32) (b8 : Int32) (c1 : Int32) (c2 : Int32) (c3 : Int32) (c4 : Int32) (a1 : Int32) (a2 : Int32) (a3 : Int32) (a4 : Int32) (nv : Int32) (RA : Nat → Option Nat) (WT : Nat → Int32) (EX : Nat → Int32) (EY : Nat → Int32) (GR : Nat → Int32) (LV : Nat → Int32) (y1 : Int64) (y2 : Int64) (y3 : Int64) (y4 : Int64) (a : Nat → Nat) (I0 : Nat → Int32) (J0 : Nat → Int64) (kd : Nat → Int32) (st : Nat → Int32) (gb : Nat → Int32) (it : Nat → Int32) (pa : Nat → Int32) (pb : Nat → Int32) (rk : Nat → Int32) (wd : Nat → Int32) (tw : Nat → Int32) (tn : Nat → Int32) (mn : Nat → Int32) (cx : Nat → Int32) (cy : Nat → Int32) (sa : Nat → Int32) (shs : Nat → Int32) (wh : Nat → Int32) (of9 : Nat → Int32) (we : Nat → Int32) (la : Nat → Int32) (lb : Nat → Int32) (lc : Nat → Int32) (ld : Nat → Int32) (P0 : Nat → Int32) (Q0 : Nat → Int32) (S0 : Nat → Int32) (ox : Nat → Int32) (oy : Nat → Int32) (mt : Nat → Int32) (wi : Nat → Int32) (ins : Nat → Int32) (T0 : Nat → Int32) (fl : Nat → Int32) (mk : Nat → Int32) (jx : Nat → Int32) (jy : Nat → Int32) (gr : Nat → Int32) (bs : Nat) (dn : Nat) (T : Nat) (ft : Nat) (Sn : Nat) (AD : Nat) (C : Nat) (ln : Nat) (FT : Nat → Nat) (cc : Nat → Nat) (W9 : Nat → Nat) (V : Nat → Nat → Nat → Int32) (VX : Nat → Nat → Int32) (VY : Nat → Nat → Int32) (cp cl U k9 : Nat) (hk9 : 6 * k9 + 6 ≤ L9) (hL9 : L9 ≤ 3072) (f0 : Nat) {H : Heap} {locs : List Loc} {ls : Array Slot} (hPD : zPD (dC, dI) classes (fun q : Nat => s.heap.size ≤ q) (((oc8 x (.ref sh) (.ref lw) (.ref ro) (.ref bq) (.ref bp) (.ref dq) (.ref dp) (.ref lv) (.ref sl) (nI dn) (nI bs) ul su) :: (oc10 sl mc9 (.ref ea) (nI T)) :: (oc7 sh (.ref fa) (nI ft)) :: (oq fa cF 200 FA) :: (oc3 lw (.ref dr) (.ref tg) (.ref wy) (.ref br) (.ref bo) (.ref aa)) :: (oc6 dr (.ref dx) (.ref dy) (nI nd) rd) :: (oa dx cI 40 P) :: (oa dy cI 40 Q) :: (oc6 tg (.ref tx) (.ref ty) (nI nt) rt) :: (oa tx cI 3 TX) :: (oa ty cI 3 TY) :: (oc6 wy (.ref wx) (.ref wz) (nI nw) rw) :: (oa wx cI 2 WX) :: (oa wz cI 2 WY) :: (oc0 br b1 b2 b3 b4) :: (oc0 bo b5 b6 b7 b8) :: (oa aa cI 40 AR) :: (oc5 ro (.ref za) (.ref zw) (.ref zx) (.ref zy) (.ref zg) nv) :: (oq za cF 200 RA) :: (oa zw cI 200 WT) :: (oa zx cI 400 EX) :: (oa zy cI 400 EY) :: (oa zg cI 400 GR) :: (oc0 bq c1 c2 c3 c4) :: (oc0 bp a1 a2 a3 a4) :: (oc2 dq y1 y2) :: (oc2 dp y3 y4) :: (oa lv cZ 200 LV) :: (om k0 a (upd I0 26 (nI ln)) J0) :: (oa (a 1) cI 201 kd) :: (oa (a 5) cI 201 st) :: (oa (a 7) cI 201 gb) :: (oa (a 10) cI 201 it) :: (oa (a 8) cI 201 pa) :: (oa (a 9) cI 201 pb) :: (oa (a 2) cI 201 rk) :: (oa (a 3) cI 201 wd) :: (oa (a 4) cI 201 tw) :: (oa (a 6) cZ 201 tn) :: (oa (a 11) cI 201 mn) :: (oa (a 12) cI 8040 cx) :: (oa (a 13) cI 8040 cy) :: (oa (a 27) cI 516 sa) :: (oa (a 28) cI (4096 * cp) shs) :: (oa (a 16) cI 514 wh) :: (oa (a 17) cI 514 of9) :: (oa (a 18) cI 514 we) :: (oa (a 22) cI (64 * cl) la) :: (oa (a 23) cI (64 * cl) lb) :: (oa (a 24) cI (64 * cl) lc) :: (oa (a 25) cI (64 * cl) ld) :: (oa (a 29) cI 42 P0) :: (oa (a 30) cI 42 Q0) :: (oa (a 32) cI 8 S0) :: (oa (a 33) cI 42 ox) :: (oa (a 34) cI 42 oy) :: (oa (a 37) cZ 201 mt) :: (oa (a 38) cZ 201 wi) :: (oa (a 39) cZ 8040 ins) :: (oa (a 40) cI 6 T0) :: (oa (a 43) cZ 40 fl) :: (oa (a 50) cZ 201 mk) :: (oa (a 51) cI 402 jx) :: (oa (a 52) cI 402 jy) :: (oa (a 53) cI 402 gr) :: []) ++ va_pl L f) H) (hS : va_S (fun q : Nat => s.heap.size ≤ q) s.heap H locs) (hl : lv_has ls 4 [(3, .int (nI (6 * k9))), (2, .ref k0), (1, .ref x), (0, .ref b)]) (hB : shB cI cO L f e0 FA ea bs dn T ft FT V VX VY tn rk wd tw pa pb wh of9 we kd st gb it mn cx cy) (hI : INV k9 Sn AD C cc W9 bs T ft cp ln cl FT V VX VY tn rk wd tw pa pb kd st it mn cx cy sa shs lb lc) (hM : I0 0 = nI ft ∧ I0 19 = nI dn ∧ I0 20 = nI (T - dn) ∧ I0 21 = nI bs) (hU : U ≤ Sn * (28 * (AD + C) + 1000) + 200 * (AD + C)) (hf0 : f0 < ft) (hv1 : xs (6 * k9 + 1) = nI f0) (hbad : ¬ ((st f0).toInt = 1 ∧ (kd f0).toInt = 6 ∧ (tn f0).toInt = 0)) (hnext : ∀ (cp1 cl1 U1 : Nat) (H : Heap) (locs : List Loc) (ls : Array Slot), lawI s dC dI cI cZ cF cO e0 mi x sl sh fa lw dr dx dy tg tx ty wy wx wz br bo aa ro za zw zx zy zg bq bp dq dp lv k0 (k9 + 1) cp1 cl1 U1 H → va_S (fun q : Nat => s.heap.size ≤ q) s.heap H locs → lv_has ls 4 [(3, .int (nI (6 * k9))), (2, .ref k0), (1, .ref x), (0, .ref b)] → W p l e room_1 s m #[Value.ref b] below meth c H locs (1000 + 1010 * (k9 + 1) + cp1 + 4 * cl1) (45000 + 8192 * cp1 + 512 * cl1 + U1) (lw_Z below #[Value.ref b] s) (F0 m 1081 ls [])) : W p l e room_1 s m #[Value.ref b] below meth c H locs (1000 + 1010 * k9 + cp + 4 * cl) (45000 + 8192 * cp + 512 * cl + U) (lw_Z below #[Value.ref b] s) (F0 m 425 ls []) := by
  obtain ⟨hP, hD⟩ := hPD
  obtain ⟨hx, hb, hr, hml, hown, hts1, hX, hbl, hlocks, hgv⟩ := id C0
  have hts : ∀ w9 ∈ ws0, w9.before #[Value.ref b] s = true := fun w9 h => hts1 w9 (List.mem_filter.mp h).1
  have hA : ∀ q : Nat, s.heap.size ≤ q → (fun q : Nat => s.heap.size ≤ q) q := fun _ h => h
  have hbA : ¬ (fun q : Nat => s.heap.size ≤ q) b := Nat.not_le.mpr hbl
  have hXN := hXL.1
  have hK3 := hK.sub [0, 1, 2] rfl
  obtain ⟨hm0, hm19, hm20, hm21⟩ := hM
  have hpo := shB_po hB
  have hK512 : k9 + 1 ≤ 512 := (by omega)
  have hwfS := hI.1.1
  have hbdC := hI.1.2.2.1
  have hT0 := hI.1.2.2.2
  have hd9 := hpo.1
  have h200t : ∀ t, bs ≤ t → t ≤ T → FT t ≤ 200 := fun t t1 t2 => Nat.le_trans (hpo.2.1 t T t1 t2 (Nat.le_refl _)) hd9.2.2.2.2
  have h200f : ft ≤ 200 := (by rw [hd9.2.2.2.1]; exact h200t dn hd9.1 hd9.2.1)
  have hrkA : ∀ q, lvF ft st tn q → 0 ≤ (rk q).toInt ∧ (rk q).toInt ≤ 9 := fun q hq => (hI.1.2.1 q (Nat.lt_of_lt_of_le hq.1 (by rw [hd9.2.2.2.1]; exact hpo.2.1 dn T hd9.1 hd9.2.1 (Nat.le_refl _)))).1
  have hwdA : ∀ q, q < ft → 0 ≤ (wd q).toInt ∧ (wd q).toInt ≤ 100 := fun q hq => (hI.1.2.1 q (Nat.lt_of_lt_of_le hq (by rw [hd9.2.2.2.1]; exact hpo.2.1 dn T hd9.1 hd9.2.1 (Nat.le_refl _)))).2
  have hcp5 := INV_cp hI (by omega)
  have hcp1 := hI.2.2.1.2.1
  have hcnt := hI.2.2.2.1
  have hlst := hI.2.2.2.2
  have hlb := mul_514 (a := Sn) (b := C) (by omega)
  have hftA := bdC_F hbdC
  have hrm := room_c (Sn := Sn) (AD := AD) (C := C) (c := cp) (cl := cl) (U := U) (by omega) hI.2.2.1.2.2.2.2.2 hlst.2.2.2.1 hU
  have hkr := (hwfS f0 hf0).1
  refine la_7_1 l C0 hk9 hL9 hS hl (hv1) ?_
  obtain ⟨hPc, hDc, hFc⟩ := zc_part (cx := [_, _, _]) hP hD hS hA [0, 2, 3] rfl rfl
  refine zcall (st1 := [.int 0]) (va_runV (As := [.int (nI f0)]) (rest := []) ⟨hx, hb, hml, hown, hts⟩ (k_grow_r l dC dI cI cZ cF H.size x sh lw ro bq bp dq dp lv sl (nI bs) ul su (nI dn) fa ft FA f0 L f kd st tn mn cx cy (h200f) (hf0) (shB_vw hB) (hbad)) (csV_243 hts rfl rfl ⟨Nat.le_of_ble_eq_true rfl, Nat.le_of_ble_eq_true rfl⟩) (zPV2 (q0 := 0) (ci := 8) hPc hDc hK3 hXN rfl rfl) rfl rfl hl.1 rfl (lv_room (Nat.le_of_ble_eq_true rfl)) dL_law_431 ⟨show 1000 + 1010 * k9 + cp + 4 * cl ≤ 600000 by omega, show 45000 + 8192 * cp + 512 * cl + U ≤ 7302250 by omega⟩) hS hFc hFc rfl (fun t H locs ht hB hk1 hS => ?_)
  obtain ⟨q_1, q_2, hP1, hD1⟩ := hB
  rw [ht] at hP1
  obtain ⟨hP, hD⟩ := zkP (W2 := ((oc8 x (.ref sh) (.ref lw) (.ref ro) (.ref bq) (.ref bp) (.ref dq) (.ref dp) (.ref lv) (.ref sl) (nI dn) (nI bs) q_1 q_2) :: _ :: _ :: _ :: _ :: _ :: _ :: _ :: _ :: _ :: _ :: _ :: _ :: _ :: _ :: _ :: _ :: _ :: _ :: _ :: _ :: _ :: _ :: _ :: _ :: _ :: _ :: _ :: _ :: _ :: _ :: _ :: _ :: _ :: _ :: _ :: _ :: _ :: _ :: _ :: _ :: _ :: _ :: _ :: _ :: _ :: _ :: _ :: _ :: _ :: _ :: _ :: _ :: _ :: _ :: _ :: _ :: _ :: _ :: _ :: _ :: _ :: _ :: _ :: _ :: [])) hP hD [0, 2, 3] (1 :: 4 :: 5 :: 6 :: 7 :: 8 :: 9 :: 10 :: 11 :: 12 :: 13 :: 14 :: 15 :: 16 :: 17 :: 18 :: 19 :: 20 :: 21 :: 22 :: 23 :: 24 :: 25 :: 26 :: 27 :: 28 :: 29 :: 30 :: 31 :: 32 :: 33 :: 34 :: 35 :: 36 :: 37 :: 38 :: 39 :: 40 :: 41 :: 42 :: 43 :: 44 :: 45 :: 46 :: 47 :: 48 :: 49 :: 50 :: 51 :: 52 :: 53 :: 54 :: 55 :: 56 :: 57 :: 58 :: 59 :: 60 :: 61 :: 62 :: 63 :: 64 :: []) (1 :: 4 :: 5 :: 6 :: 7 :: 8 :: 9 :: 10 :: 11 :: 12 :: 13 :: 14 :: 15 :: 16 :: 17 :: 18 :: 19 :: 20 :: 21 :: 22 :: 23 :: 24 :: 25 :: 26 :: 27 :: 28 :: 29 :: 30 :: 31 :: 32 :: 33 :: 34 :: 35 :: 36 :: 37 :: 38 :: 39 :: 40 :: 41 :: 42 :: 43 :: 44 :: 45 :: 46 :: 47 :: 48 :: 49 :: 50 :: 51 :: 52 :: 53 :: 54 :: 55 :: 56 :: 57 :: 58 :: 59 :: 60 :: 61 :: 62 :: 63 :: 64 :: []) [0, 2, 3] (62 :: 0 :: 63 :: 64 :: 1 :: 2 :: 3 :: 4 :: 5 :: 6 :: 7 :: 8 :: 9 :: 10 :: 11 :: 12 :: 13 :: 14 :: 15 :: 16 :: 17 :: 18 :: 19 :: 20 :: 21 :: 22 :: 23 :: 24 :: 25 :: 26 :: 27 :: 28 :: 29 :: 30 :: 31 :: 32 :: 33 :: 34 :: 35 :: 36 :: 37 :: 38 :: 39 :: 40 :: 41 :: 42 :: 43 :: 44 :: 45 :: 46 :: 47 :: 48 :: 49 :: 50 :: 51 :: 52 :: 53 :: 54 :: 55 :: 56 :: 57 :: 58 :: 59 :: 60 :: 61 :: []) 65 rfl rfl rfl rfl rfl rfl rfl rfl rfl hk1 hFc hP1 hD1
  clear hk1 hPc hDc hFc hP1 hD1 ht
  refine lv_pop hx hb dL_law_434 rfl ?_
  refine la_7_2 l C0 hk9 hL9 hS hl (hv1) ?_
  obtain ⟨hPc, hDc, hFc⟩ := zc_sub (wc := [_, _, _, _]) hP hD hS hA [28, 30, 38, 29] rfl rfl
  refine zcall (st1 := [.int 0]) (va_runV (As := [.int (nI f0)]) (rest := []) ⟨hx, hb, hml, hown, hts⟩ (k_M_grow_r l dC dI cI cZ cF H.size k0 a (upd I0 26 (nI ln)) J0 f0 ft st tn kd (hm0) (h200f) (by first | with_reducible assumption | omega) (by first | with_reducible assumption | omega)) (csV_244 hts rfl rfl ⟨Nat.le_of_ble_eq_true rfl, Nat.le_of_ble_eq_true rfl⟩) (zPV2 (q0 := 0) (ci := 9) hPc hDc hK3 hXN rfl rfl) rfl rfl hl.1 rfl (lv_room (Nat.le_of_ble_eq_true rfl)) dL_law_441 ⟨show 1000 + 1010 * k9 + cp + 4 * cl ≤ 600000 by omega, show 45000 + 8192 * cp + 512 * cl + U ≤ 7302250 by omega⟩) hS hFc hFc rfl (fun t H locs ht hB hk1 hS => ?_)
  obtain ⟨q_3, hP1, hD1⟩ := hB
  rw [ht] at hP1
  obtain ⟨hP, hD⟩ := zkQ (W2 := (_ :: _ :: _ :: _ :: _ :: _ :: _ :: _ :: _ :: _ :: _ :: _ :: _ :: _ :: _ :: _ :: _ :: _ :: _ :: _ :: _ :: _ :: _ :: _ :: _ :: _ :: _ :: _ :: (om k0 a (upd (upd (upd I0 14 q_3) 15 (I0 15)) 26 (nI ln)) J0) :: _ :: _ :: _ :: _ :: _ :: _ :: _ :: _ :: _ :: _ :: _ :: _ :: _ :: _ :: _ :: _ :: _ :: _ :: _ :: _ :: _ :: _ :: _ :: _ :: _ :: _ :: _ :: _ :: _ :: _ :: _ :: _ :: _ :: _ :: _ :: _ :: [])) hP hD [28, 30, 38, 29] (0 :: 1 :: 2 :: 3 :: 4 :: 5 :: 6 :: 7 :: 8 :: 9 :: 10 :: 11 :: 12 :: 13 :: 14 :: 15 :: 16 :: 17 :: 18 :: 19 :: 20 :: 21 :: 22 :: 23 :: 24 :: 25 :: 26 :: 27 :: 31 :: 32 :: 33 :: 34 :: 35 :: 36 :: 37 :: 39 :: 40 :: 41 :: 42 :: 43 :: 44 :: 45 :: 46 :: 47 :: 48 :: 49 :: 50 :: 51 :: 52 :: 53 :: 54 :: 55 :: 56 :: 57 :: 58 :: 59 :: 60 :: 61 :: 62 :: 63 :: 64 :: []) (0 :: 1 :: 2 :: 3 :: 4 :: 5 :: 6 :: 7 :: 8 :: 9 :: 10 :: 11 :: 12 :: 13 :: 14 :: 15 :: 16 :: 17 :: 18 :: 19 :: 20 :: 21 :: 22 :: 23 :: 24 :: 25 :: 26 :: 27 :: 31 :: 32 :: 33 :: 34 :: 35 :: 36 :: 37 :: 39 :: 40 :: 41 :: 42 :: 43 :: 44 :: 45 :: 46 :: 47 :: 48 :: 49 :: 50 :: 51 :: 52 :: 53 :: 54 :: 55 :: 56 :: 57 :: 58 :: 59 :: 60 :: 61 :: 62 :: 63 :: 64 :: []) [28, 30, 38, 29] (0 :: 1 :: 2 :: 3 :: 4 :: 5 :: 6 :: 7 :: 8 :: 9 :: 10 :: 11 :: 12 :: 13 :: 14 :: 15 :: 16 :: 17 :: 18 :: 19 :: 20 :: 21 :: 22 :: 23 :: 24 :: 25 :: 26 :: 27 :: 61 :: 64 :: 62 :: 28 :: 29 :: 30 :: 31 :: 32 :: 33 :: 34 :: 63 :: 35 :: 36 :: 37 :: 38 :: 39 :: 40 :: 41 :: 42 :: 43 :: 44 :: 45 :: 46 :: 47 :: 48 :: 49 :: 50 :: 51 :: 52 :: 53 :: 54 :: 55 :: 56 :: 57 :: 58 :: 59 :: 60 :: []) 65 rfl rfl rfl rfl rfl rfl rfl rfl rfl hk1 hFc hP1 hD1
  clear hk1 hPc hDc hFc hP1 hD1 ht
  refine lv_pop hx hb dL_law_444 rfl ?_
  refine lv_goto (tgt := 1081) hx hb dL_law_445 rfl ?_
  obtain ⟨hP9, hD9⟩ := zq_part (cx := (_ :: _ :: _ :: _ :: _ :: _ :: _ :: _ :: _ :: _ :: _ :: _ :: _ :: _ :: _ :: _ :: _ :: _ :: _ :: _ :: _ :: _ :: _ :: _ :: _ :: _ :: _ :: _ :: _ :: _ :: _ :: _ :: _ :: _ :: _ :: _ :: _ :: _ :: _ :: _ :: _ :: _ :: _ :: _ :: _ :: _ :: _ :: _ :: _ :: _ :: _ :: _ :: _ :: _ :: _ :: _ :: _ :: _ :: _ :: _ :: _ :: _ :: _ :: _ :: _ :: [])) hP hD (0 :: 1 :: 2 :: 3 :: 4 :: 5 :: 6 :: 7 :: 8 :: 9 :: 10 :: 11 :: 12 :: 13 :: 14 :: 15 :: 16 :: 17 :: 18 :: 19 :: 20 :: 21 :: 22 :: 23 :: 24 :: 25 :: 26 :: 27 :: 28 :: 29 :: 30 :: 31 :: 32 :: 33 :: 34 :: 35 :: 36 :: 37 :: 38 :: 39 :: 40 :: 41 :: 42 :: 43 :: 44 :: 45 :: 46 :: 47 :: 48 :: 49 :: 50 :: 51 :: 52 :: 53 :: 54 :: 55 :: 56 :: 57 :: 58 :: 59 :: 60 :: 61 :: 62 :: 63 :: 64 :: []) rfl rfl
  refine W.widen (k := 1000 + 1010 * (k9 + 1) + cp + 4 * cl) (n := 45000 + 8192 * cp + 512 * cl + U) (by omega) (by omega) ?_
  have e26 : upd (upd (upd (upd I0 14 q_3) 15 (I0 15)) 26 (nI ln)) 26 (nI ln) = (upd (upd (upd I0 14 q_3) 15 (I0 15)) 26 (nI ln)) := up_same rfl
  exact hnext cp cl U H locs ls (lawI_in L f FA ea nd nt nw q_1 q_2 mc9 rd rt rw P Q TX TY WX WY AR b1 b2 b3 b4 b5 b6 b7 b8 c1 c2 c3 c4 a1 a2 a3 a4 nv RA WT EX EY GR LV y1 y2 y3 y4 a (upd (upd (upd I0 14 q_3) 15 (I0 15)) 26 (nI ln)) J0 kd st gb it pa pb rk wd tw tn mn cx cy sa shs wh of9 we la lb lc ld P0 Q0 S0 ox oy mt wi ins T0 fl mk jx jy gr bs dn T ft Sn AD C ln FT cc W9 V VX VY (by rw [e26]; exact hP9) (by rw [e26]; exact hD9) (hB) (INV_K hI) ⟨hm0, hm19, hm20, hm21⟩ (by omega)) hS (lv_sub hl [0, 1, 2, 3] rfl)
set_option maxHeartbeats 4000000 in
set_option maxRecDepth 100000 in
theorem lc_square_r {p : Program} {e : Env} {s : State} {m : MethodId} {below : List Frame} {meth : Method} {c : Code} (l : Launch) {b L9 : Nat} {xs : Nat → Int32} (C0 : lw_At p s m meth c b L9 xs) (dC : Nat → ClassId) (dI : Nat → Nat → Nat) (cI cZ cF cO : ClassId) (e0 mi : Nat) (x sl sh fa lw dr dx dy tg tx ty wy wx wz br bo aa ro za zw zx zy zg bq bp dq dp lv k0 : Nat) (hK : va_K (dC, dI) classes (zTyO cI cZ cF cO) s) (hXL : zXL e0 mi (fun q : Nat => s.heap.size ≤ q) s) (L : List Nat) (f : Nat → va_E) (FA : Nat → Option Nat) (ea : Nat) (nd : Nat) (nt : Nat) (nw : Nat) (ul : Int32) (su : Int32) (mc9 : Int32) (rd : Int32) (rt : Int32) (rw : Int32) (P : Nat → Int32) (Q : Nat → Int32) (TX : Nat → Int32) (TY : Nat → Int32) (WX : Nat → Int32) (WY : Nat → Int32) (AR : Nat → Int32) (b1 : Int32) (b2 : Int32) (b3 : Int32) (b4 : Int32) (b5 : Int32) (b6 : Int32) (b7 : Int32) (b8 : Int32) (c1 : Int32) (c2 : Int32) (c3 : Int32) (c4 : Int32) (a1 : Int32) (a2 : Int32) (a3 : Int32) (a4 : Int32) (nv : Int32) (RA : Nat → Option Nat) (WT : Nat → Int32) (EX : Nat → Int32) (EY : Nat → Int32) (GR : Nat → Int32) (LV : Nat → Int32) (y1 : Int64) (y2 : Int64) (y3 : Int64) (y4 : Int64) (a : Nat → Nat) (I0 : Nat → Int32) (J0 : Nat → Int64) (kd : Nat → Int32) (st : Nat → Int32) (gb : Nat → Int32) (it : Nat → Int32) (pa : Nat → Int32) (pb : Nat → Int32) (rk : Nat → Int32) (wd : Nat → Int32) (tw : Nat → Int32) (tn : Nat → Int32) (mn : Nat → Int32) (cx : Nat → Int32) (cy : Nat → Int32) (sa : Nat → Int32) (shs : Nat → Int32) (wh : Nat → Int32) (of9 : Nat → Int32) (we : Nat → Int32) (la : Nat → Int32) (lb : Nat → Int32) (lc : Nat → Int32) (ld : Nat → Int32) (P0 : Nat → Int32) (Q0 : Nat → Int32) (S0 : Nat → Int32) (ox : Nat → Int32) (oy : Nat → Int32) (mt : Nat → Int32) (wi : Nat → Int32) (ins : Nat → Int32) (T0 : Nat → Int32) (fl : Nat → Int32) (mk : Nat → Int32) (jx : Nat → Int32) (jy : Nat → Int32) (gr : Nat → Int32) (bs : Nat) (dn : Nat) (T : Nat) (ft : Nat) (Sn : Nat) (AD : Nat) (C : Nat) (ln : Nat) (FT : Nat → Nat) (cc : Nat → Nat) (W9 : Nat → Nat) (V : Nat → Nat → Nat → Int32) (VX : Nat → Nat → Int32) (VY : Nat → Nat → Int32) (cp cl U k9 : Nat) (hk9 : 6 * k9 + 6 ≤ L9) (hL9 : L9 ≤ 3072) (f0 : Nat) {H : Heap} {locs : List Loc} {ls : Array Slot} (hPD : zPD (dC, dI) classes (fun q : Nat => s.heap.size ≤ q) (((oc8 x (.ref sh) (.ref lw) (.ref ro) (.ref bq) (.ref bp) (.ref dq) (.ref dp) (.ref lv) (.ref sl) (nI dn) (nI bs) ul su) :: (oc10 sl mc9 (.ref ea) (nI T)) :: (oc7 sh (.ref fa) (nI ft)) :: (oq fa cF 200 FA) :: (oc3 lw (.ref dr) (.ref tg) (.ref wy) (.ref br) (.ref bo) (.ref aa)) :: (oc6 dr (.ref dx) (.ref dy) (nI nd) rd) :: (oa dx cI 40 P) :: (oa dy cI 40 Q) :: (oc6 tg (.ref tx) (.ref ty) (nI nt) rt) :: (oa tx cI 3 TX) :: (oa ty cI 3 TY) :: (oc6 wy (.ref wx) (.ref wz) (nI nw) rw) :: (oa wx cI 2 WX) :: (oa wz cI 2 WY) :: (oc0 br b1 b2 b3 b4) :: (oc0 bo b5 b6 b7 b8) :: (oa aa cI 40 AR) :: (oc5 ro (.ref za) (.ref zw) (.ref zx) (.ref zy) (.ref zg) nv) :: (oq za cF 200 RA) :: (oa zw cI 200 WT) :: (oa zx cI 400 EX) :: (oa zy cI 400 EY) :: (oa zg cI 400 GR) :: (oc0 bq c1 c2 c3 c4) :: (oc0 bp a1 a2 a3 a4) :: (oc2 dq y1 y2) :: (oc2 dp y3 y4) :: (oa lv cZ 200 LV) :: (om k0 a (upd I0 26 (nI ln)) J0) :: (oa (a 1) cI 201 kd) :: (oa (a 5) cI 201 st) :: (oa (a 7) cI 201 gb) :: (oa (a 10) cI 201 it) :: (oa (a 8) cI 201 pa) :: (oa (a 9) cI 201 pb) :: (oa (a 2) cI 201 rk) :: (oa (a 3) cI 201 wd) :: (oa (a 4) cI 201 tw) :: (oa (a 6) cZ 201 tn) :: (oa (a 11) cI 201 mn) :: (oa (a 12) cI 8040 cx) :: (oa (a 13) cI 8040 cy) :: (oa (a 27) cI 516 sa) :: (oa (a 28) cI (4096 * cp) shs) :: (oa (a 16) cI 514 wh) :: (oa (a 17) cI 514 of9) :: (oa (a 18) cI 514 we) :: (oa (a 22) cI (64 * cl) la) :: (oa (a 23) cI (64 * cl) lb) :: (oa (a 24) cI (64 * cl) lc) :: (oa (a 25) cI (64 * cl) ld) :: (oa (a 29) cI 42 P0) :: (oa (a 30) cI 42 Q0) :: (oa (a 32) cI 8 S0) :: (oa (a 33) cI 42 ox) :: (oa (a 34) cI 42 oy) :: (oa (a 37) cZ 201 mt) :: (oa (a 38) cZ 201 wi) :: (oa (a 39) cZ 8040 ins) :: (oa (a 40) cI 6 T0) :: (oa (a 43) cZ 40 fl) :: (oa (a 50) cZ 201 mk) :: (oa (a 51) cI 402 jx) :: (oa (a 52) cI 402 jy) :: (oa (a 53) cI 402 gr) :: []) ++ va_pl L f) H) (hS : va_S (fun q : Nat => s.heap.size ≤ q) s.heap H locs) (hl : lv_has ls 4 [(3, .int (nI (6 * k9))), (2, .ref k0), (1, .ref x), (0, .ref b)]) (hB : shB cI cO L f e0 FA ea bs dn T ft FT V VX VY tn rk wd tw pa pb wh of9 we kd st gb it mn cx cy) (hI : INV k9 Sn AD C cc W9 bs T ft cp ln cl FT V VX VY tn rk wd tw pa pb kd st it mn cx cy sa shs lb lc) (hM : I0 0 = nI ft ∧ I0 19 = nI dn ∧ I0 20 = nI (T - dn) ∧ I0 21 = nI bs) (hU : U ≤ Sn * (28 * (AD + C) + 1000) + 200 * (AD + C)) (hf0 : f0 < ft) (hv1 : xs (6 * k9 + 1) = nI f0) (hbad : ¬ ((st f0).toInt = 1 ∧ (kd f0).toInt = 5 ∧ 0 ≤ (xs (6 * k9 + 2)).toInt ∧ (tn f0).toInt = 0)) (hnext : ∀ (cp1 cl1 U1 : Nat) (H : Heap) (locs : List Loc) (ls : Array Slot), lawI s dC dI cI cZ cF cO e0 mi x sl sh fa lw dr dx dy tg tx ty wy wx wz br bo aa ro za zw zx zy zg bq bp dq dp lv k0 (k9 + 1) cp1 cl1 U1 H → va_S (fun q : Nat => s.heap.size ≤ q) s.heap H locs → lv_has ls 4 [(3, .int (nI (6 * k9))), (2, .ref k0), (1, .ref x), (0, .ref b)] → W p l e room_1 s m #[Value.ref b] below meth c H locs (1000 + 1010 * (k9 + 1) + cp1 + 4 * cl1) (45000 + 8192 * cp1 + 512 * cl1 + U1) (lw_Z below #[Value.ref b] s) (F0 m 1081 ls [])) : W p l e room_1 s m #[Value.ref b] below meth c H locs (1000 + 1010 * k9 + cp + 4 * cl) (45000 + 8192 * cp + 512 * cl + U) (lw_Z below #[Value.ref b] s) (F0 m 448 ls []) := by
  obtain ⟨hP, hD⟩ := hPD
  obtain ⟨hx, hb, hr, hml, hown, hts1, hX, hbl, hlocks, hgv⟩ := id C0
  have hts : ∀ w9 ∈ ws0, w9.before #[Value.ref b] s = true := fun w9 h => hts1 w9 (List.mem_filter.mp h).1
  have hA : ∀ q : Nat, s.heap.size ≤ q → (fun q : Nat => s.heap.size ≤ q) q := fun _ h => h
  have hbA : ¬ (fun q : Nat => s.heap.size ≤ q) b := Nat.not_le.mpr hbl
  have hXN := hXL.1
  have hK3 := hK.sub [0, 1, 2] rfl
  obtain ⟨hm0, hm19, hm20, hm21⟩ := hM
  have hpo := shB_po hB
  have hK512 : k9 + 1 ≤ 512 := (by omega)
  have hwfS := hI.1.1
  have hbdC := hI.1.2.2.1
  have hT0 := hI.1.2.2.2
  have hd9 := hpo.1
  have h200t : ∀ t, bs ≤ t → t ≤ T → FT t ≤ 200 := fun t t1 t2 => Nat.le_trans (hpo.2.1 t T t1 t2 (Nat.le_refl _)) hd9.2.2.2.2
  have h200f : ft ≤ 200 := (by rw [hd9.2.2.2.1]; exact h200t dn hd9.1 hd9.2.1)
  have hrkA : ∀ q, lvF ft st tn q → 0 ≤ (rk q).toInt ∧ (rk q).toInt ≤ 9 := fun q hq => (hI.1.2.1 q (Nat.lt_of_lt_of_le hq.1 (by rw [hd9.2.2.2.1]; exact hpo.2.1 dn T hd9.1 hd9.2.1 (Nat.le_refl _)))).1
  have hwdA : ∀ q, q < ft → 0 ≤ (wd q).toInt ∧ (wd q).toInt ≤ 100 := fun q hq => (hI.1.2.1 q (Nat.lt_of_lt_of_le hq (by rw [hd9.2.2.2.1]; exact hpo.2.1 dn T hd9.1 hd9.2.1 (Nat.le_refl _)))).2
  have hcp5 := INV_cp hI (by omega)
  have hcp1 := hI.2.2.1.2.1
  have hcnt := hI.2.2.2.1
  have hlst := hI.2.2.2.2
  have hlb := mul_514 (a := Sn) (b := C) (by omega)
  have hftA := bdC_F hbdC
  have hrm := room_c (Sn := Sn) (AD := AD) (C := C) (c := cp) (cl := cl) (U := U) (by omega) hI.2.2.1.2.2.2.2.2 hlst.2.2.2.1 hU
  have hkr := (hwfS f0 hf0).1
  refine la_8_1 l C0 hk9 hL9 hS hl (hv1) (rfl) ?_
  obtain ⟨hPc, hDc, hFc⟩ := zc_part (cx := [_, _, _]) hP hD hS hA [0, 2, 3] rfl rfl
  refine zcall (st1 := [.int 0]) (va_runV (As := [.int (nI f0), .int (xs (6 * k9 + 2))]) (rest := []) ⟨hx, hb, hml, hown, hts⟩ (k_square_r l dC dI cI cZ cF H.size x sh lw ro bq bp dq dp lv sl (nI bs) ul su (nI dn) fa ft FA f0 L f kd st tn mn cx cy (xs (6 * k9 + 2)) (h200f) (hf0) (shB_vw hB) (hbad)) (csV_245 hts rfl rfl ⟨Nat.le_of_ble_eq_true rfl, Nat.le_of_ble_eq_true rfl⟩) (zPV2 (q0 := 0) (ci := 8) hPc hDc hK3 hXN rfl rfl) rfl rfl hl.1 rfl (lv_room (Nat.le_of_ble_eq_true rfl)) dL_law_459 ⟨show 1000 + 1010 * k9 + cp + 4 * cl ≤ 600000 by omega, show 45000 + 8192 * cp + 512 * cl + U ≤ 7302250 by omega⟩) hS hFc hFc rfl (fun t H locs ht hB hk1 hS => ?_)
  obtain ⟨q_1, q_2, hP1, hD1⟩ := hB
  rw [ht] at hP1
  obtain ⟨hP, hD⟩ := zkP (W2 := ((oc8 x (.ref sh) (.ref lw) (.ref ro) (.ref bq) (.ref bp) (.ref dq) (.ref dp) (.ref lv) (.ref sl) (nI dn) (nI bs) q_1 q_2) :: _ :: _ :: _ :: _ :: _ :: _ :: _ :: _ :: _ :: _ :: _ :: _ :: _ :: _ :: _ :: _ :: _ :: _ :: _ :: _ :: _ :: _ :: _ :: _ :: _ :: _ :: _ :: _ :: _ :: _ :: _ :: _ :: _ :: _ :: _ :: _ :: _ :: _ :: _ :: _ :: _ :: _ :: _ :: _ :: _ :: _ :: _ :: _ :: _ :: _ :: _ :: _ :: _ :: _ :: _ :: _ :: _ :: _ :: _ :: _ :: _ :: _ :: _ :: _ :: [])) hP hD [0, 2, 3] (1 :: 4 :: 5 :: 6 :: 7 :: 8 :: 9 :: 10 :: 11 :: 12 :: 13 :: 14 :: 15 :: 16 :: 17 :: 18 :: 19 :: 20 :: 21 :: 22 :: 23 :: 24 :: 25 :: 26 :: 27 :: 28 :: 29 :: 30 :: 31 :: 32 :: 33 :: 34 :: 35 :: 36 :: 37 :: 38 :: 39 :: 40 :: 41 :: 42 :: 43 :: 44 :: 45 :: 46 :: 47 :: 48 :: 49 :: 50 :: 51 :: 52 :: 53 :: 54 :: 55 :: 56 :: 57 :: 58 :: 59 :: 60 :: 61 :: 62 :: 63 :: 64 :: []) (1 :: 4 :: 5 :: 6 :: 7 :: 8 :: 9 :: 10 :: 11 :: 12 :: 13 :: 14 :: 15 :: 16 :: 17 :: 18 :: 19 :: 20 :: 21 :: 22 :: 23 :: 24 :: 25 :: 26 :: 27 :: 28 :: 29 :: 30 :: 31 :: 32 :: 33 :: 34 :: 35 :: 36 :: 37 :: 38 :: 39 :: 40 :: 41 :: 42 :: 43 :: 44 :: 45 :: 46 :: 47 :: 48 :: 49 :: 50 :: 51 :: 52 :: 53 :: 54 :: 55 :: 56 :: 57 :: 58 :: 59 :: 60 :: 61 :: 62 :: 63 :: 64 :: []) [0, 2, 3] (62 :: 0 :: 63 :: 64 :: 1 :: 2 :: 3 :: 4 :: 5 :: 6 :: 7 :: 8 :: 9 :: 10 :: 11 :: 12 :: 13 :: 14 :: 15 :: 16 :: 17 :: 18 :: 19 :: 20 :: 21 :: 22 :: 23 :: 24 :: 25 :: 26 :: 27 :: 28 :: 29 :: 30 :: 31 :: 32 :: 33 :: 34 :: 35 :: 36 :: 37 :: 38 :: 39 :: 40 :: 41 :: 42 :: 43 :: 44 :: 45 :: 46 :: 47 :: 48 :: 49 :: 50 :: 51 :: 52 :: 53 :: 54 :: 55 :: 56 :: 57 :: 58 :: 59 :: 60 :: 61 :: []) 65 rfl rfl rfl rfl rfl rfl rfl rfl rfl hk1 hFc hP1 hD1
  clear hk1 hPc hDc hFc hP1 hD1 ht
  refine lv_pop hx hb dL_law_462 rfl ?_
  refine la_8_2 l C0 hk9 hL9 hS hl (hv1) (rfl) ?_
  obtain ⟨hPc, hDc, hFc⟩ := zc_sub (wc := [_, _, _, _]) hP hD hS hA [28, 30, 38, 29] rfl rfl
  refine zcall (st1 := [.int 0]) (va_runV (As := [.int (nI f0), .int (xs (6 * k9 + 2))]) (rest := []) ⟨hx, hb, hml, hown, hts⟩ (k_M_square_r l dC dI cI cZ cF H.size k0 a (upd I0 26 (nI ln)) J0 f0 ft (xs (6 * k9 + 2)) st tn kd (hm0) (h200f) (by first | with_reducible assumption | omega) (by first | with_reducible assumption | omega)) (csV_246 hts rfl rfl ⟨Nat.le_of_ble_eq_true rfl, Nat.le_of_ble_eq_true rfl⟩) (zPV2 (q0 := 0) (ci := 9) hPc hDc hK3 hXN rfl rfl) rfl rfl hl.1 rfl (lv_room (Nat.le_of_ble_eq_true rfl)) dL_law_474 ⟨show 1000 + 1010 * k9 + cp + 4 * cl ≤ 600000 by omega, show 45000 + 8192 * cp + 512 * cl + U ≤ 7302250 by omega⟩) hS hFc hFc rfl (fun t H locs ht hB hk1 hS => ?_)
  obtain ⟨q_3, hP1, hD1⟩ := hB
  rw [ht] at hP1
  obtain ⟨hP, hD⟩ := zkQ (W2 := (_ :: _ :: _ :: _ :: _ :: _ :: _ :: _ :: _ :: _ :: _ :: _ :: _ :: _ :: _ :: _ :: _ :: _ :: _ :: _ :: _ :: _ :: _ :: _ :: _ :: _ :: _ :: _ :: (om k0 a (upd (upd (upd I0 14 q_3) 15 (I0 15)) 26 (nI ln)) J0) :: _ :: _ :: _ :: _ :: _ :: _ :: _ :: _ :: _ :: _ :: _ :: _ :: _ :: _ :: _ :: _ :: _ :: _ :: _ :: _ :: _ :: _ :: _ :: _ :: _ :: _ :: _ :: _ :: _ :: _ :: _ :: _ :: _ :: _ :: _ :: _ :: [])) hP hD [28, 30, 38, 29] (0 :: 1 :: 2 :: 3 :: 4 :: 5 :: 6 :: 7 :: 8 :: 9 :: 10 :: 11 :: 12 :: 13 :: 14 :: 15 :: 16 :: 17 :: 18 :: 19 :: 20 :: 21 :: 22 :: 23 :: 24 :: 25 :: 26 :: 27 :: 31 :: 32 :: 33 :: 34 :: 35 :: 36 :: 37 :: 39 :: 40 :: 41 :: 42 :: 43 :: 44 :: 45 :: 46 :: 47 :: 48 :: 49 :: 50 :: 51 :: 52 :: 53 :: 54 :: 55 :: 56 :: 57 :: 58 :: 59 :: 60 :: 61 :: 62 :: 63 :: 64 :: []) (0 :: 1 :: 2 :: 3 :: 4 :: 5 :: 6 :: 7 :: 8 :: 9 :: 10 :: 11 :: 12 :: 13 :: 14 :: 15 :: 16 :: 17 :: 18 :: 19 :: 20 :: 21 :: 22 :: 23 :: 24 :: 25 :: 26 :: 27 :: 31 :: 32 :: 33 :: 34 :: 35 :: 36 :: 37 :: 39 :: 40 :: 41 :: 42 :: 43 :: 44 :: 45 :: 46 :: 47 :: 48 :: 49 :: 50 :: 51 :: 52 :: 53 :: 54 :: 55 :: 56 :: 57 :: 58 :: 59 :: 60 :: 61 :: 62 :: 63 :: 64 :: []) [28, 30, 38, 29] (0 :: 1 :: 2 :: 3 :: 4 :: 5 :: 6 :: 7 :: 8 :: 9 :: 10 :: 11 :: 12 :: 13 :: 14 :: 15 :: 16 :: 17 :: 18 :: 19 :: 20 :: 21 :: 22 :: 23 :: 24 :: 25 :: 26 :: 27 :: 61 :: 64 :: 62 :: 28 :: 29 :: 30 :: 31 :: 32 :: 33 :: 34 :: 63 :: 35 :: 36 :: 37 :: 38 :: 39 :: 40 :: 41 :: 42 :: 43 :: 44 :: 45 :: 46 :: 47 :: 48 :: 49 :: 50 :: 51 :: 52 :: 53 :: 54 :: 55 :: 56 :: 57 :: 58 :: 59 :: 60 :: []) 65 rfl rfl rfl rfl rfl rfl rfl rfl rfl hk1 hFc hP1 hD1
  clear hk1 hPc hDc hFc hP1 hD1 ht
  refine lv_pop hx hb dL_law_477 rfl ?_
  refine lv_goto (tgt := 1081) hx hb dL_law_478 rfl ?_
  obtain ⟨hP9, hD9⟩ := zq_part (cx := (_ :: _ :: _ :: _ :: _ :: _ :: _ :: _ :: _ :: _ :: _ :: _ :: _ :: _ :: _ :: _ :: _ :: _ :: _ :: _ :: _ :: _ :: _ :: _ :: _ :: _ :: _ :: _ :: _ :: _ :: _ :: _ :: _ :: _ :: _ :: _ :: _ :: _ :: _ :: _ :: _ :: _ :: _ :: _ :: _ :: _ :: _ :: _ :: _ :: _ :: _ :: _ :: _ :: _ :: _ :: _ :: _ :: _ :: _ :: _ :: _ :: _ :: _ :: _ :: _ :: [])) hP hD (0 :: 1 :: 2 :: 3 :: 4 :: 5 :: 6 :: 7 :: 8 :: 9 :: 10 :: 11 :: 12 :: 13 :: 14 :: 15 :: 16 :: 17 :: 18 :: 19 :: 20 :: 21 :: 22 :: 23 :: 24 :: 25 :: 26 :: 27 :: 28 :: 29 :: 30 :: 31 :: 32 :: 33 :: 34 :: 35 :: 36 :: 37 :: 38 :: 39 :: 40 :: 41 :: 42 :: 43 :: 44 :: 45 :: 46 :: 47 :: 48 :: 49 :: 50 :: 51 :: 52 :: 53 :: 54 :: 55 :: 56 :: 57 :: 58 :: 59 :: 60 :: 61 :: 62 :: 63 :: 64 :: []) rfl rfl
  refine W.widen (k := 1000 + 1010 * (k9 + 1) + cp + 4 * cl) (n := 45000 + 8192 * cp + 512 * cl + U) (by omega) (by omega) ?_
  have e26 : upd (upd (upd (upd I0 14 q_3) 15 (I0 15)) 26 (nI ln)) 26 (nI ln) = (upd (upd (upd I0 14 q_3) 15 (I0 15)) 26 (nI ln)) := up_same rfl
  exact hnext cp cl U H locs ls (lawI_in L f FA ea nd nt nw q_1 q_2 mc9 rd rt rw P Q TX TY WX WY AR b1 b2 b3 b4 b5 b6 b7 b8 c1 c2 c3 c4 a1 a2 a3 a4 nv RA WT EX EY GR LV y1 y2 y3 y4 a (upd (upd (upd I0 14 q_3) 15 (I0 15)) 26 (nI ln)) J0 kd st gb it pa pb rk wd tw tn mn cx cy sa shs wh of9 we la lb lc ld P0 Q0 S0 ox oy mt wi ins T0 fl mk jx jy gr bs dn T ft Sn AD C ln FT cc W9 V VX VY (by rw [e26]; exact hP9) (by rw [e26]; exact hD9) (hB) (INV_K hI) ⟨hm0, hm19, hm20, hm21⟩ (by omega)) hS (lv_sub hl [0, 1, 2, 3] rfl)
set_option maxHeartbeats 4000000 in
set_option maxRecDepth 100000 in
theorem lc_drop_y {p : Program} {e : Env} {s : State} {m : MethodId} {below : List Frame} {meth : Method} {c : Code} (l : Launch) {b L9 : Nat} {xs : Nat → Int32} (C0 : lw_At p s m meth c b L9 xs) (dC : Nat → ClassId) (dI : Nat → Nat → Nat) (cI cZ cF cO : ClassId) (e0 mi : Nat) (x sl sh fa lw dr dx dy tg tx ty wy wx wz br bo aa ro za zw zx zy zg bq bp dq dp lv k0 : Nat) (hK : va_K (dC, dI) classes (zTyO cI cZ cF cO) s) (hXL : zXL e0 mi (fun q : Nat => s.heap.size ≤ q) s) (L : List Nat) (f : Nat → va_E) (FA : Nat → Option Nat) (ea : Nat) (nd : Nat) (nt : Nat) (nw : Nat) (ul : Int32) (su : Int32) (mc9 : Int32) (rd : Int32) (rt : Int32) (rw : Int32) (P : Nat → Int32) (Q : Nat → Int32) (TX : Nat → Int32) (TY : Nat → Int32) (WX : Nat → Int32) (WY : Nat → Int32) (AR : Nat → Int32) (b1 : Int32) (b2 : Int32) (b3 : Int32) (b4 : Int32) (b5 : Int32) (b6 : Int32) (b7 : Int32) (b8 : Int32) (c1 : Int32) (c2 : Int32) (c3 : Int32) (c4 : Int32) (a1 : Int32) (a2 : Int32) (a3 : Int32) (a4 : Int32) (nv : Int32) (RA : Nat → Option Nat) (WT : Nat → Int32) (EX : Nat → Int32) (EY : Nat → Int32) (GR : Nat → Int32) (LV : Nat → Int32) (y1 : Int64) (y2 : Int64) (y3 : Int64) (y4 : Int64) (a : Nat → Nat) (I0 : Nat → Int32) (J0 : Nat → Int64) (kd : Nat → Int32) (st : Nat → Int32) (gb : Nat → Int32) (it : Nat → Int32) (pa : Nat → Int32) (pb : Nat → Int32) (rk : Nat → Int32) (wd : Nat → Int32) (tw : Nat → Int32) (tn : Nat → Int32) (mn : Nat → Int32) (cx : Nat → Int32) (cy : Nat → Int32) (sa : Nat → Int32) (shs : Nat → Int32) (wh : Nat → Int32) (of9 : Nat → Int32) (we : Nat → Int32) (la : Nat → Int32) (lb : Nat → Int32) (lc : Nat → Int32) (ld : Nat → Int32) (P0 : Nat → Int32) (Q0 : Nat → Int32) (S0 : Nat → Int32) (ox : Nat → Int32) (oy : Nat → Int32) (mt : Nat → Int32) (wi : Nat → Int32) (ins : Nat → Int32) (T0 : Nat → Int32) (fl : Nat → Int32) (mk : Nat → Int32) (jx : Nat → Int32) (jy : Nat → Int32) (gr : Nat → Int32) (bs : Nat) (dn : Nat) (T : Nat) (ft : Nat) (Sn : Nat) (AD : Nat) (C : Nat) (ln : Nat) (FT : Nat → Nat) (cc : Nat → Nat) (W9 : Nat → Nat) (V : Nat → Nat → Nat → Int32) (VX : Nat → Nat → Int32) (VY : Nat → Nat → Int32) (cp cl U k9 : Nat) (hk9 : 6 * k9 + 6 ≤ L9) (hL9 : L9 ≤ 3072) (f0 : Nat) {H : Heap} {locs : List Loc} {ls : Array Slot} (hPD : zPD (dC, dI) classes (fun q : Nat => s.heap.size ≤ q) (((oc8 x (.ref sh) (.ref lw) (.ref ro) (.ref bq) (.ref bp) (.ref dq) (.ref dp) (.ref lv) (.ref sl) (nI dn) (nI bs) ul su) :: (oc10 sl mc9 (.ref ea) (nI T)) :: (oc7 sh (.ref fa) (nI ft)) :: (oq fa cF 200 FA) :: (oc3 lw (.ref dr) (.ref tg) (.ref wy) (.ref br) (.ref bo) (.ref aa)) :: (oc6 dr (.ref dx) (.ref dy) (nI nd) rd) :: (oa dx cI 40 P) :: (oa dy cI 40 Q) :: (oc6 tg (.ref tx) (.ref ty) (nI nt) rt) :: (oa tx cI 3 TX) :: (oa ty cI 3 TY) :: (oc6 wy (.ref wx) (.ref wz) (nI nw) rw) :: (oa wx cI 2 WX) :: (oa wz cI 2 WY) :: (oc0 br b1 b2 b3 b4) :: (oc0 bo b5 b6 b7 b8) :: (oa aa cI 40 AR) :: (oc5 ro (.ref za) (.ref zw) (.ref zx) (.ref zy) (.ref zg) nv) :: (oq za cF 200 RA) :: (oa zw cI 200 WT) :: (oa zx cI 400 EX) :: (oa zy cI 400 EY) :: (oa zg cI 400 GR) :: (oc0 bq c1 c2 c3 c4) :: (oc0 bp a1 a2 a3 a4) :: (oc2 dq y1 y2) :: (oc2 dp y3 y4) :: (oa lv cZ 200 LV) :: (om k0 a (upd I0 26 (nI ln)) J0) :: (oa (a 1) cI 201 kd) :: (oa (a 5) cI 201 st) :: (oa (a 7) cI 201 gb) :: (oa (a 10) cI 201 it) :: (oa (a 8) cI 201 pa) :: (oa (a 9) cI 201 pb) :: (oa (a 2) cI 201 rk) :: (oa (a 3) cI 201 wd) :: (oa (a 4) cI 201 tw) :: (oa (a 6) cZ 201 tn) :: (oa (a 11) cI 201 mn) :: (oa (a 12) cI 8040 cx) :: (oa (a 13) cI 8040 cy) :: (oa (a 27) cI 516 sa) :: (oa (a 28) cI (4096 * cp) shs) :: (oa (a 16) cI 514 wh) :: (oa (a 17) cI 514 of9) :: (oa (a 18) cI 514 we) :: (oa (a 22) cI (64 * cl) la) :: (oa (a 23) cI (64 * cl) lb) :: (oa (a 24) cI (64 * cl) lc) :: (oa (a 25) cI (64 * cl) ld) :: (oa (a 29) cI 42 P0) :: (oa (a 30) cI 42 Q0) :: (oa (a 32) cI 8 S0) :: (oa (a 33) cI 42 ox) :: (oa (a 34) cI 42 oy) :: (oa (a 37) cZ 201 mt) :: (oa (a 38) cZ 201 wi) :: (oa (a 39) cZ 8040 ins) :: (oa (a 40) cI 6 T0) :: (oa (a 43) cZ 40 fl) :: (oa (a 50) cZ 201 mk) :: (oa (a 51) cI 402 jx) :: (oa (a 52) cI 402 jy) :: (oa (a 53) cI 402 gr) :: []) ++ va_pl L f) H) (hS : va_S (fun q : Nat => s.heap.size ≤ q) s.heap H locs) (hl : lv_has ls 4 [(3, .int (nI (6 * k9))), (2, .ref k0), (1, .ref x), (0, .ref b)]) (hB : shB cI cO L f e0 FA ea bs dn T ft FT V VX VY tn rk wd tw pa pb wh of9 we kd st gb it mn cx cy) (hI : INV k9 Sn AD C cc W9 bs T ft cp ln cl FT V VX VY tn rk wd tw pa pb kd st it mn cx cy sa shs lb lc) (hM : I0 0 = nI ft ∧ I0 19 = nI dn ∧ I0 20 = nI (T - dn) ∧ I0 21 = nI bs) (hU : U ≤ Sn * (28 * (AD + C) + 1000) + 200 * (AD + C)) (hf0 : f0 < ft) (hv1 : xs (6 * k9 + 1) = nI f0) (hst : (st f0).toInt = 1) (htn : (tn f0).toInt = 0) (hnext : ∀ (cp1 cl1 U1 : Nat) (H : Heap) (locs : List Loc) (ls : Array Slot), lawI s dC dI cI cZ cF cO e0 mi x sl sh fa lw dr dx dy tg tx ty wy wx wz br bo aa ro za zw zx zy zg bq bp dq dp lv k0 (k9 + 1) cp1 cl1 U1 H → va_S (fun q : Nat => s.heap.size ≤ q) s.heap H locs → lv_has ls 4 [(3, .int (nI (6 * k9))), (2, .ref k0), (1, .ref x), (0, .ref b)] → W p l e room_1 s m #[Value.ref b] below meth c H locs (1000 + 1010 * (k9 + 1) + cp1 + 4 * cl1) (45000 + 8192 * cp1 + 512 * cl1 + U1) (lw_Z below #[Value.ref b] s) (F0 m 1081 ls [])) : W p l e room_1 s m #[Value.ref b] below meth c H locs (1000 + 1010 * k9 + cp + 4 * cl) (45000 + 8192 * cp + 512 * cl + U) (lw_Z below #[Value.ref b] s) (F0 m 524 ls []) := by
  obtain ⟨hP, hD⟩ := hPD
  obtain ⟨hx, hb, hr, hml, hown, hts1, hX, hbl, hlocks, hgv⟩ := id C0
  have hts : ∀ w9 ∈ ws0, w9.before #[Value.ref b] s = true := fun w9 h => hts1 w9 (List.mem_filter.mp h).1
  have hA : ∀ q : Nat, s.heap.size ≤ q → (fun q : Nat => s.heap.size ≤ q) q := fun _ h => h
  have hbA : ¬ (fun q : Nat => s.heap.size ≤ q) b := Nat.not_le.mpr hbl
  have hXN := hXL.1
  have hK3 := hK.sub [0, 1, 2] rfl
  obtain ⟨hm0, hm19, hm20, hm21⟩ := hM
  have hpo := shB_po hB
  have hK512 : k9 + 1 ≤ 512 := (by omega)
  have hwfS := hI.1.1
  have hbdC := hI.1.2.2.1
  have hT0 := hI.1.2.2.2
  have hd9 := hpo.1
  have h200t : ∀ t, bs ≤ t → t ≤ T → FT t ≤ 200 := fun t t1 t2 => Nat.le_trans (hpo.2.1 t T t1 t2 (Nat.le_refl _)) hd9.2.2.2.2
  have h200f : ft ≤ 200 := (by rw [hd9.2.2.2.1]; exact h200t dn hd9.1 hd9.2.1)
  have hrkA : ∀ q, lvF ft st tn q → 0 ≤ (rk q).toInt ∧ (rk q).toInt ≤ 9 := fun q hq => (hI.1.2.1 q (Nat.lt_of_lt_of_le hq.1 (by rw [hd9.2.2.2.1]; exact hpo.2.1 dn T hd9.1 hd9.2.1 (Nat.le_refl _)))).1
  have hwdA : ∀ q, q < ft → 0 ≤ (wd q).toInt ∧ (wd q).toInt ≤ 100 := fun q hq => (hI.1.2.1 q (Nat.lt_of_lt_of_le hq (by rw [hd9.2.2.2.1]; exact hpo.2.1 dn T hd9.1 hd9.2.1 (Nat.le_refl _)))).2
  have hcp5 := INV_cp hI (by omega)
  have hcp1 := hI.2.2.1.2.1
  have hcnt := hI.2.2.2.1
  have hlst := hI.2.2.2.2
  have hlb := mul_514 (a := Sn) (b := C) (by omega)
  have hftA := bdC_F hbdC
  have hlv : lvF ft st tn f0 := ⟨hf0, hst, htn⟩
  have hw1 : wfS ft kd (upd st f0 2) tn mn (upd it f0 (-1 : Int32)) cx cy := wfS_go hwfS (fun _ => hst) _
  have hb1 : bdC cc AD ft kd (upd st f0 2) mn tn := bdC_cg hbdC (fun q _ g => by by_cases e : q = f0; (rw [e]; exact hst); (rw [upo9 e] at g; exact g)) (fun q _ g => Or.inl ⟨g, rfl, Nat.le_refl _⟩)
  obtain ⟨cq1, cq2, hpw1, hw0, hfit1, hmin1, hcE1, hpw2, hfit2, hmin2, hcE2, hp12, hcap⟩ := INV_fit hI hK512 hd9.1 hd9.2.1 h200t hbdC h200f hb1 h200f
  have hq1 := pw_le hpw1
  have hq2 := pw_le hpw2
  have hSC : Sn * C ≤ (Sn + 1) * C := Nat.mul_le_mul (by omega) (Nat.le_refl _)
  have hU1 := ub_s hU (show 4 * ft + 811 ≤ 28 * (AD + C) + 1000 by omega)
  have hrm := room_c (Sn := Sn + 1) (AD := AD) (C := C) (c := cq2) (cl := cl) (U := U + (4 * ft + 811)) (by omega) hcap (by omega) hU1
  refine la_10_1 l C0 hk9 hL9 hS hl (hv1) ?_
  obtain ⟨hPc, hDc, hFc⟩ := zc_part (cx := [_, _, _, _]) hP hD hS hA [0, 1, 2, 3] rfl rfl
  refine zcall (st1 := [.int 1]) (va_runV (As := [.int (nI f0)]) (rest := []) ⟨hx, hb, hml, hown, hts⟩ (k_drop_y l dC dI cI cZ cF H.size cO e0 mi x sh lw ro bq bp dq dp lv sl (nI bs) ul su ea mc9 fa FA bs dn T ft FT V VX VY tn rk wd tw pa pb wh of9 we kd st gb it mn cx cy L f f0 (hB) (by first | with_reducible assumption | omega) (hf0) (htn) (hst) (wfS_it hwfS f0 hf0 hst)) (csV_247 hts rfl rfl ⟨Nat.le_of_ble_eq_true rfl, Nat.le_of_ble_eq_true rfl⟩) (zPVL (q0 := 0) (ci := 8) hPc hDc hK hXL hS hFc rfl rfl) rfl rfl hl.1 rfl (lv_room (Nat.le_of_ble_eq_true rfl)) dL_law_530 ⟨show (1000 + 1010 * k9 + cp + 4 * cl + (ft + 3)) ≤ 600000 by omega, show (45000 + 8192 * cp + 512 * cl + U + (4 * ft + 811)) ≤ 7302250 by omega⟩) hS hFc hFc rfl (fun t H locs ht hB hk1 hS => ?_)
  obtain ⟨q_1, q_2, q_3, q_4, hB1, hP1, hD1⟩ := hB
  rw [ht] at hP1
  obtain ⟨hP, hD⟩ := zkP (W2 := ((oc8 x (.ref sh) (.ref lw) (.ref ro) (.ref bq) (.ref bp) (.ref dq) (.ref dp) (.ref lv) (.ref sl) (nI (dn + 1)) (nI bs) ul 0) :: (oc10 sl q_1 (.ref q_4) (nI (dn + 1))) :: _ :: _ :: _ :: _ :: _ :: _ :: _ :: _ :: _ :: _ :: _ :: _ :: _ :: _ :: _ :: _ :: _ :: _ :: _ :: _ :: _ :: _ :: _ :: _ :: _ :: _ :: _ :: _ :: _ :: _ :: _ :: _ :: _ :: _ :: _ :: _ :: _ :: _ :: _ :: _ :: _ :: _ :: _ :: _ :: _ :: _ :: _ :: _ :: _ :: _ :: _ :: _ :: _ :: _ :: _ :: _ :: _ :: _ :: _ :: _ :: _ :: _ :: _ :: [])) hP hD [0, 1, 2, 3] (4 :: 5 :: 6 :: 7 :: 8 :: 9 :: 10 :: 11 :: 12 :: 13 :: 14 :: 15 :: 16 :: 17 :: 18 :: 19 :: 20 :: 21 :: 22 :: 23 :: 24 :: 25 :: 26 :: 27 :: 28 :: 29 :: 30 :: 31 :: 32 :: 33 :: 34 :: 35 :: 36 :: 37 :: 38 :: 39 :: 40 :: 41 :: 42 :: 43 :: 44 :: 45 :: 46 :: 47 :: 48 :: 49 :: 50 :: 51 :: 52 :: 53 :: 54 :: 55 :: 56 :: 57 :: 58 :: 59 :: 60 :: 61 :: 62 :: 63 :: 64 :: []) (4 :: 5 :: 6 :: 7 :: 8 :: 9 :: 10 :: 11 :: 12 :: 13 :: 14 :: 15 :: 16 :: 17 :: 18 :: 19 :: 20 :: 21 :: 22 :: 23 :: 24 :: 25 :: 26 :: 27 :: 28 :: 29 :: 30 :: 31 :: 32 :: 33 :: 34 :: 35 :: 36 :: 37 :: 38 :: 39 :: 40 :: 41 :: 42 :: 43 :: 44 :: 45 :: 46 :: 47 :: 48 :: 49 :: 50 :: 51 :: 52 :: 53 :: 54 :: 55 :: 56 :: 57 :: 58 :: 59 :: 60 :: 61 :: 62 :: 63 :: 64 :: []) [0, 1, 2, 3] (61 :: 62 :: 63 :: 64 :: 0 :: 1 :: 2 :: 3 :: 4 :: 5 :: 6 :: 7 :: 8 :: 9 :: 10 :: 11 :: 12 :: 13 :: 14 :: 15 :: 16 :: 17 :: 18 :: 19 :: 20 :: 21 :: 22 :: 23 :: 24 :: 25 :: 26 :: 27 :: 28 :: 29 :: 30 :: 31 :: 32 :: 33 :: 34 :: 35 :: 36 :: 37 :: 38 :: 39 :: 40 :: 41 :: 42 :: 43 :: 44 :: 45 :: 46 :: 47 :: 48 :: 49 :: 50 :: 51 :: 52 :: 53 :: 54 :: 55 :: 56 :: 57 :: 58 :: 59 :: 60 :: []) 65 rfl rfl rfl rfl rfl rfl rfl rfl rfl hk1 hFc hP1 hD1
  clear hk1 hPc hDc hFc hP1 hD1 ht
  refine lv_pop hx hb dL_law_533 rfl ?_
  refine la_10_2 l C0 hk9 hL9 hS hl (hv1) ?_
  obtain ⟨hPc, hDc, hFc⟩ := zc_sub (wc := [_, _, _, _, _, _, _, _, _, _, _, _, _, _, _, _, _, _, _, _, _, _, _]) hP hD hS hA [28, 29, 30, 31, 32, 33, 34, 35, 36, 37, 38, 39, 40, 41, 42, 43, 44, 45, 46, 47, 48, 49, 50] rfl rfl
  refine zcall (st1 := [.int 1]) (va_runV (As := [.int (nI f0)]) (rest := []) ⟨hx, hb, hml, hown, hts⟩ (k_M_drop_y l dC dI cI cZ cF H.size k0 a (upd I0 26 (nI ln)) J0 f0 ft dn bs (W9 dn) cp cq1 cq2 ln cl kd st gb it pa pb rk wd tw tn mn cx cy sa shs wh of9 we la lb lc ld (hm0) (h200f) (by first | with_reducible assumption | omega) (hst) (htn) (hm19) (hm21) (by first | with_reducible assumption | omega) (by first | with_reducible assumption | omega) (by first | with_reducible assumption | omega) (by first | with_reducible assumption | omega) (by first | with_reducible assumption | omega) (by first | with_reducible assumption | omega) (hI.2.2.1.1.2.1 dn hpo.1.1 hpo.1.2.1) (wfS_mn hwfS) (by first | with_reducible assumption | omega) (hpw1) (hw0) (hfit1) (hmin1) (hcE1) (hpw2) (hfit2) (hmin2) (hcE2)) (csV_248 hts rfl rfl ⟨Nat.le_of_ble_eq_true rfl, Nat.le_of_ble_eq_true rfl⟩) (zPV2 (q0 := 0) (ci := 9) hPc hDc hK3 hXN rfl rfl) rfl rfl hl.1 rfl (lv_room (Nat.le_of_ble_eq_true rfl)) dL_law_540 ⟨show ((1000 + 1010 * k9 + cp + 4 * cl + (ft + 3)) + (cq2 - cp)) ≤ 600000 by omega, show ((45000 + 8192 * cp + 512 * cl + U + (4 * ft + 811)) + (8192 * (cq2 - cp))) ≤ 7302250 by omega⟩) hS hFc hFc rfl (fun t H locs ht hB hk1 hS => ?_)
  obtain ⟨bb2, sh2, t9, la1, lb1, lc1, ld1, p0, p1, p2, p3, p4, p5, p6, hP1, hD1⟩ := hB
  rw [ht] at hP1
  obtain ⟨hP, hD⟩ := zkQ (W2 := (_ :: _ :: _ :: _ :: _ :: _ :: _ :: _ :: _ :: _ :: _ :: _ :: _ :: _ :: _ :: _ :: _ :: _ :: _ :: _ :: _ :: _ :: _ :: _ :: _ :: _ :: _ :: _ :: _ :: _ :: _ :: _ :: _ :: _ :: _ :: _ :: _ :: _ :: _ :: _ :: _ :: _ :: (om k0 (va_up a 28 bb2) (upd (upd (upd (upd (upd I0 14 0) 19 (nI (dn + 1))) 20 0) 26 (nI t9)) 41 (nI (psN (nnF (upd st f0 2) tn mn) (psN (nnF st tn mn) (W9 dn) ft) ft))) J0) :: (oa (a 1) cI 201 kd) :: (oa (a 5) cI 201 (upd st f0 2)) :: (oa (a 7) cI 201 (upd gb f0 (nI (dn + 1)))) :: (oa (a 10) cI 201 (upd it f0 (-1 : Int32))) :: (oa (a 8) cI 201 pa) :: (oa (a 9) cI 201 pb) :: (oa (a 2) cI 201 rk) :: (oa (a 3) cI 201 wd) :: (oa (a 4) cI 201 tw) :: (oa (a 6) cZ 201 tn) :: (oa (a 11) cI 201 mn) :: (oa (a 12) cI 8040 cx) :: (oa (a 13) cI 8040 cy) :: (oa (a 27) cI 516 (upd (upd sa (dn - bs + 1) (nI (psN (nnF st tn mn) (W9 dn) ft))) (dn + 1 - bs + 1) (nI (psN (nnF (upd st f0 2) tn mn) (psN (nnF st tn mn) (W9 dn) ft) ft)))) :: (oa bb2 cI (4096 * cq2) sh2) :: (oa (a 16) cI 514 (upd wh (dn + 1) (7 : Int32))) :: (oa (a 17) cI 514 (upd of9 (dn + 1) (nI f0))) :: (oa (a 18) cI 514 (upd we (dn + 1) (1 : Int32))) :: (oa (a 22) cI (64 * cl) la1) :: (oa (a 23) cI (64 * cl) lb1) :: (oa (a 24) cI (64 * cl) lc1) :: (oa (a 25) cI (64 * cl) ld1) :: [])) hP hD [28, 29, 30, 31, 32, 33, 34, 35, 36, 37, 38, 39, 40, 41, 42, 43, 44, 45, 46, 47, 48, 49, 50] (0 :: 1 :: 2 :: 3 :: 4 :: 5 :: 6 :: 7 :: 8 :: 9 :: 10 :: 11 :: 12 :: 13 :: 14 :: 15 :: 16 :: 17 :: 18 :: 19 :: 20 :: 21 :: 22 :: 23 :: 24 :: 25 :: 26 :: 27 :: 51 :: 52 :: 53 :: 54 :: 55 :: 56 :: 57 :: 58 :: 59 :: 60 :: 61 :: 62 :: 63 :: 64 :: []) (0 :: 1 :: 2 :: 3 :: 4 :: 5 :: 6 :: 7 :: 8 :: 9 :: 10 :: 11 :: 12 :: 13 :: 14 :: 15 :: 16 :: 17 :: 18 :: 19 :: 20 :: 21 :: 22 :: 23 :: 24 :: 25 :: 26 :: 27 :: 28 :: 29 :: 30 :: 31 :: 32 :: 33 :: 34 :: 35 :: 36 :: 37 :: 38 :: 39 :: 40 :: 41 :: []) [42, 43, 44, 45, 46, 47, 48, 49, 50, 51, 52, 53, 54, 55, 56, 57, 58, 59, 60, 61, 62, 63, 64] (0 :: 1 :: 2 :: 3 :: 4 :: 5 :: 6 :: 7 :: 8 :: 9 :: 10 :: 11 :: 12 :: 13 :: 14 :: 15 :: 16 :: 17 :: 18 :: 19 :: 20 :: 21 :: 22 :: 23 :: 24 :: 25 :: 26 :: 27 :: 28 :: 29 :: 30 :: 31 :: 32 :: 33 :: 34 :: 35 :: 36 :: 37 :: 38 :: 39 :: 40 :: 41 :: 42 :: 43 :: 44 :: 45 :: 46 :: 47 :: 48 :: 49 :: 50 :: 51 :: 52 :: 53 :: 54 :: 55 :: 56 :: 57 :: 58 :: 59 :: 60 :: 61 :: 62 :: 63 :: 64 :: []) 65 rfl rfl rfl rfl rfl rfl rfl rfl rfl hk1 hFc hP1 hD1
  clear hk1 hPc hDc hFc hP1 hD1 ht
  refine lv_pop hx hb dL_law_543 rfl ?_
  refine lv_goto (tgt := 1081) hx hb dL_law_544 rfl ?_
  obtain ⟨hP9, hD9⟩ := zq_part (cx := (_ :: _ :: _ :: _ :: _ :: _ :: _ :: _ :: _ :: _ :: _ :: _ :: _ :: _ :: _ :: _ :: _ :: _ :: _ :: _ :: _ :: _ :: _ :: _ :: _ :: _ :: _ :: _ :: _ :: _ :: _ :: _ :: _ :: _ :: _ :: _ :: _ :: _ :: _ :: _ :: _ :: _ :: _ :: _ :: _ :: _ :: _ :: _ :: _ :: _ :: _ :: _ :: _ :: _ :: _ :: _ :: _ :: _ :: _ :: _ :: _ :: _ :: _ :: _ :: _ :: [])) hP hD (0 :: 1 :: 2 :: 3 :: 4 :: 5 :: 6 :: 7 :: 8 :: 9 :: 10 :: 11 :: 12 :: 13 :: 14 :: 15 :: 16 :: 17 :: 18 :: 19 :: 20 :: 21 :: 22 :: 23 :: 24 :: 25 :: 26 :: 27 :: 42 :: 43 :: 44 :: 45 :: 46 :: 47 :: 48 :: 49 :: 50 :: 51 :: 52 :: 53 :: 54 :: 55 :: 56 :: 57 :: 58 :: 59 :: 60 :: 61 :: 62 :: 63 :: 64 :: 28 :: 29 :: 30 :: 31 :: 32 :: 33 :: 34 :: 35 :: 36 :: 37 :: 38 :: 39 :: 40 :: 41 :: []) rfl rfl
  have hls9 : t9 ≤ 64 * cl ∧ 1 ≤ cl ∧ t9 ≤ (Sn + 1) * C ∧ (cl = 1 ∨ 32 * cl ≤ (Sn + 1) * C) ∧ ∀ j, j < t9 → pl (lb1 j) ∧ pl (lc1 j) := ⟨by omega, by omega, by omega, by omega, fun j hj => by obtain ⟨i9, hi9, e1, e2⟩ := p6 j hj; rw [e1, e2]; exact hlst.2.2.2.2 i9 hi9⟩
  refine W.widen (k := 1000 + 1010 * (k9 + 1) + cq2 + 4 * cl) (n := 45000 + 8192 * cq2 + 512 * cl + (U + (4 * ft + 811))) (by omega) (by omega) ?_
  have e26 : upd (upd (upd (upd (upd (upd I0 14 0) 19 (nI (dn + 1))) 20 0) 26 (nI t9)) 41 (nI (psN (nnF (upd st f0 2) tn mn) (psN (nnF st tn mn) (W9 dn) ft) ft))) 26 (nI t9) = (upd (upd (upd (upd (upd I0 14 0) 19 (nI (dn + 1))) 20 0) 26 (nI t9)) 41 (nI (psN (nnF (upd st f0 2) tn mn) (psN (nnF st tn mn) (W9 dn) ft) ft))) := up_same rfl
  exact hnext cq2 cl (U + (4 * ft + 811)) H locs ls (lawI_in q_2 q_3 FA q_4 nd nt nw ul 0 q_1 rd rt rw P Q TX TY WX WY AR b1 b2 b3 b4 b5 b6 b7 b8 c1 c2 c3 c4 a1 a2 a3 a4 nv RA WT EX EY GR LV y1 y2 y3 y4 (va_up a 28 bb2) (upd (upd (upd (upd (upd I0 14 0) 19 (nI (dn + 1))) 20 0) 26 (nI t9)) 41 (nI (psN (nnF (upd st f0 2) tn mn) (psN (nnF st tn mn) (W9 dn) ft) ft))) J0 kd (upd st f0 2) (upd gb f0 (nI (dn + 1))) (upd it f0 (-1 : Int32)) pa pb rk wd tw tn mn cx cy (upd (upd sa (dn - bs + 1) (nI (psN (nnF st tn mn) (W9 dn) ft))) (dn + 1 - bs + 1) (nI (psN (nnF (upd st f0 2) tn mn) (psN (nnF st tn mn) (W9 dn) ft) ft))) sh2 (upd wh (dn + 1) (7 : Int32)) (upd of9 (dn + 1) (nI f0)) (upd we (dn + 1) (1 : Int32)) la1 lb1 lc1 ld1 P0 Q0 S0 ox oy mt wi ins T0 fl mk jx jy gr bs (dn + 1) (dn + 1) ft (Sn + 1) AD C t9 (upN FT (dn + 1) ft) cc (upN W9 (dn + 1) (psN (nnF st tn mn) (W9 dn) ft)) (upN V (dn + 1) (vC kd (upd st f0 2) (upd gb f0 (nI (dn + 1))) (upd it f0 (-1 : Int32)) mn)) (upN VX (dn + 1) cx) (upN VY (dn + 1) cy) (by rw [e26]; exact hP9) (by rw [e26]; exact hD9) (hB1) (INV_step (P2 := psN (nnF (upd st f0 2) tn mn) (psN (nnF st tn mn) (W9 dn) ft) ft) hI hpo rfl rfl p0 p1 p2 p3 p4 (fun g hg => ⟨rfl, rfl, rfl, rfl, rfl, rfl⟩) hw1 (fun q hq => hI.1.2.1 q (Nat.lt_of_lt_of_le hq (by rw [hd9.2.2.2.1]; exact hpo.2.1 dn T hd9.1 hd9.2.1 (Nat.le_refl _)))) hb1 hT0 (by omega) hp12 hfit2 hcap hls9) ⟨hm0, rfl, (by rw [Nat.sub_self]; rfl), hm21⟩ (hU1)) hS (lv_sub hl [0, 1, 2, 3] rfl)
set_option maxHeartbeats 4000000 in
set_option maxRecDepth 100000 in
theorem lc_feature_4 {p : Program} {e : Env} {s : State} {m : MethodId} {below : List Frame} {meth : Method} {c : Code} (l : Launch) {b L9 : Nat} {xs : Nat → Int32} (C0 : lw_At p s m meth c b L9 xs) (dC : Nat → ClassId) (dI : Nat → Nat → Nat) (cI cZ cF cO : ClassId) (e0 mi : Nat) (x sl sh fa lw dr dx dy tg tx ty wy wx wz br bo aa ro za zw zx zy zg bq bp dq dp lv k0 : Nat) (hK : va_K (dC, dI) classes (zTyO cI cZ cF cO) s) (hXL : zXL e0 mi (fun q : Nat => s.heap.size ≤ q) s) (L : List Nat) (f : Nat → va_E) (FA : Nat → Option Nat) (ea : Nat) (nd : Nat) (nt : Nat) (nw : Nat) (ul : Int32) (su : Int32) (mc9 : Int32) (rd : Int32) (rt : Int32) (rw : Int32) (P : Nat → Int32) (Q : Nat → Int32) (TX : Nat → Int32) (TY : Nat → Int32) (WX : Nat → Int32) (WY : Nat → Int32) (AR : Nat → Int32) (b1 : Int32) (b2 : Int32) (b3 : Int32) (b4 : Int32) (b5 : Int32) (b6 : Int32) (b7 : Int32) (b8 : Int32) (c1 : Int32) (c2 : Int32) (c3 : Int32) (c4 : Int32) (a1 : Int32) (a2 : Int32) (a3 : Int32) (a4 : Int32) (nv : Int32) (RA : Nat → Option Nat) (WT : Nat → Int32) (EX : Nat → Int32) (EY : Nat → Int32) (GR : Nat → Int32) (LV : Nat → Int32) (y1 : Int64) (y2 : Int64) (y3 : Int64) (y4 : Int64) (a : Nat → Nat) (I0 : Nat → Int32) (J0 : Nat → Int64) (kd : Nat → Int32) (st : Nat → Int32) (gb : Nat → Int32) (it : Nat → Int32) (pa : Nat → Int32) (pb : Nat → Int32) (rk : Nat → Int32) (wd : Nat → Int32) (tw : Nat → Int32) (tn : Nat → Int32) (mn : Nat → Int32) (cx : Nat → Int32) (cy : Nat → Int32) (sa : Nat → Int32) (shs : Nat → Int32) (wh : Nat → Int32) (of9 : Nat → Int32) (we : Nat → Int32) (la : Nat → Int32) (lb : Nat → Int32) (lc : Nat → Int32) (ld : Nat → Int32) (P0 : Nat → Int32) (Q0 : Nat → Int32) (S0 : Nat → Int32) (ox : Nat → Int32) (oy : Nat → Int32) (mt : Nat → Int32) (wi : Nat → Int32) (ins : Nat → Int32) (T0 : Nat → Int32) (fl : Nat → Int32) (mk : Nat → Int32) (jx : Nat → Int32) (jy : Nat → Int32) (gr : Nat → Int32) (bs : Nat) (dn : Nat) (T : Nat) (ft : Nat) (Sn : Nat) (AD : Nat) (C : Nat) (ln : Nat) (FT : Nat → Nat) (cc : Nat → Nat) (W9 : Nat → Nat) (V : Nat → Nat → Nat → Int32) (VX : Nat → Nat → Int32) (VY : Nat → Nat → Int32) (cp cl U k9 : Nat) (hk9 : 6 * k9 + 6 ≤ L9) (hL9 : L9 ≤ 3072) {H : Heap} {locs : List Loc} {ls : Array Slot} (hPD : zPD (dC, dI) classes (fun q : Nat => s.heap.size ≤ q) (((oc8 x (.ref sh) (.ref lw) (.ref ro) (.ref bq) (.ref bp) (.ref dq) (.ref dp) (.ref lv) (.ref sl) (nI dn) (nI bs) ul su) :: (oc10 sl mc9 (.ref ea) (nI T)) :: (oc7 sh (.ref fa) (nI ft)) :: (oq fa cF 200 FA) :: (oc3 lw (.ref dr) (.ref tg) (.ref wy) (.ref br) (.ref bo) (.ref aa)) :: (oc6 dr (.ref dx) (.ref dy) (nI nd) rd) :: (oa dx cI 40 P) :: (oa dy cI 40 Q) :: (oc6 tg (.ref tx) (.ref ty) (nI nt) rt) :: (oa tx cI 3 TX) :: (oa ty cI 3 TY) :: (oc6 wy (.ref wx) (.ref wz) (nI nw) rw) :: (oa wx cI 2 WX) :: (oa wz cI 2 WY) :: (oc0 br b1 b2 b3 b4) :: (oc0 bo b5 b6 b7 b8) :: (oa aa cI 40 AR) :: (oc5 ro (.ref za) (.ref zw) (.ref zx) (.ref zy) (.ref zg) nv) :: (oq za cF 200 RA) :: (oa zw cI 200 WT) :: (oa zx cI 400 EX) :: (oa zy cI 400 EY) :: (oa zg cI 400 GR) :: (oc0 bq c1 c2 c3 c4) :: (oc0 bp a1 a2 a3 a4) :: (oc2 dq y1 y2) :: (oc2 dp y3 y4) :: (oa lv cZ 200 LV) :: (om k0 a (upd I0 26 (nI ln)) J0) :: (oa (a 1) cI 201 kd) :: (oa (a 5) cI 201 st) :: (oa (a 7) cI 201 gb) :: (oa (a 10) cI 201 it) :: (oa (a 8) cI 201 pa) :: (oa (a 9) cI 201 pb) :: (oa (a 2) cI 201 rk) :: (oa (a 3) cI 201 wd) :: (oa (a 4) cI 201 tw) :: (oa (a 6) cZ 201 tn) :: (oa (a 11) cI 201 mn) :: (oa (a 12) cI 8040 cx) :: (oa (a 13) cI 8040 cy) :: (oa (a 27) cI 516 sa) :: (oa (a 28) cI (4096 * cp) shs) :: (oa (a 16) cI 514 wh) :: (oa (a 17) cI 514 of9) :: (oa (a 18) cI 514 we) :: (oa (a 22) cI (64 * cl) la) :: (oa (a 23) cI (64 * cl) lb) :: (oa (a 24) cI (64 * cl) lc) :: (oa (a 25) cI (64 * cl) ld) :: (oa (a 29) cI 42 P0) :: (oa (a 30) cI 42 Q0) :: (oa (a 32) cI 8 S0) :: (oa (a 33) cI 42 ox) :: (oa (a 34) cI 42 oy) :: (oa (a 37) cZ 201 mt) :: (oa (a 38) cZ 201 wi) :: (oa (a 39) cZ 8040 ins) :: (oa (a 40) cI 6 T0) :: (oa (a 43) cZ 40 fl) :: (oa (a 50) cZ 201 mk) :: (oa (a 51) cI 402 jx) :: (oa (a 52) cI 402 jy) :: (oa (a 53) cI 402 gr) :: []) ++ va_pl L f) H) (hS : va_S (fun q : Nat => s.heap.size ≤ q) s.heap H locs) (hl : lv_has ls 4 [(3, .int (nI (6 * k9))), (2, .ref k0), (1, .ref x), (0, .ref b)]) (hB : shB cI cO L f e0 FA ea bs dn T ft FT V VX VY tn rk wd tw pa pb wh of9 we kd st gb it mn cx cy) (hI : INV k9 Sn AD C cc W9 bs T ft cp ln cl FT V VX VY tn rk wd tw pa pb kd st it mn cx cy sa shs lb lc) (hM : I0 0 = nI ft ∧ I0 19 = nI dn ∧ I0 20 = nI (T - dn) ∧ I0 21 = nI bs) (hU : U ≤ Sn * (28 * (AD + C) + 1000) + 200 * (AD + C)) (hbad : ¬ ((0 ≤ (xs (6 * k9 + 1)).toInt ∧ (xs (6 * k9 + 1)).toInt ≤ 6) ∧ (0 ≤ (xs (6 * k9 + 2)).toInt ∧ (xs (6 * k9 + 2)).toInt ≤ 9) ∧ (0 ≤ (xs (6 * k9 + 3)).toInt ∧ (xs (6 * k9 + 3)).toInt ≤ 100) ∧ (0 ≤ (xs (6 * k9 + 4)).toInt ∧ (xs (6 * k9 + 4)).toInt ≤ 9))) (hnext : ∀ (cp1 cl1 U1 : Nat) (H : Heap) (locs : List Loc) (ls : Array Slot), lawI s dC dI cI cZ cF cO e0 mi x sl sh fa lw dr dx dy tg tx ty wy wx wz br bo aa ro za zw zx zy zg bq bp dq dp lv k0 (k9 + 1) cp1 cl1 U1 H → va_S (fun q : Nat => s.heap.size ≤ q) s.heap H locs → lv_has ls 4 [(3, .int (nI (6 * k9))), (2, .ref k0), (1, .ref x), (0, .ref b)] → W p l e room_1 s m #[Value.ref b] below meth c H locs (1000 + 1010 * (k9 + 1) + cp1 + 4 * cl1) (45000 + 8192 * cp1 + 512 * cl1 + U1) (lw_Z below #[Value.ref b] s) (F0 m 1081 ls [])) : W p l e room_1 s m #[Value.ref b] below meth c H locs (1000 + 1010 * k9 + cp + 4 * cl) (45000 + 8192 * cp + 512 * cl + U) (lw_Z below #[Value.ref b] s) (F0 m 164 ls []) := by
  obtain ⟨hP, hD⟩ := hPD
  obtain ⟨hx, hb, hr, hml, hown, hts1, hX, hbl, hlocks, hgv⟩ := id C0
  have hts : ∀ w9 ∈ ws0, w9.before #[Value.ref b] s = true := fun w9 h => hts1 w9 (List.mem_filter.mp h).1
  have hA : ∀ q : Nat, s.heap.size ≤ q → (fun q : Nat => s.heap.size ≤ q) q := fun _ h => h
  have hbA : ¬ (fun q : Nat => s.heap.size ≤ q) b := Nat.not_le.mpr hbl
  have hXN := hXL.1
  have hK3 := hK.sub [0, 1, 2] rfl
  obtain ⟨hm0, hm19, hm20, hm21⟩ := hM
  have hpo := shB_po hB
  have hK512 : k9 + 1 ≤ 512 := (by omega)
  have hwfS := hI.1.1
  have hbdC := hI.1.2.2.1
  have hT0 := hI.1.2.2.2
  have hd9 := hpo.1
  have h200t : ∀ t, bs ≤ t → t ≤ T → FT t ≤ 200 := fun t t1 t2 => Nat.le_trans (hpo.2.1 t T t1 t2 (Nat.le_refl _)) hd9.2.2.2.2
  have h200f : ft ≤ 200 := (by rw [hd9.2.2.2.1]; exact h200t dn hd9.1 hd9.2.1)
  have hrkA : ∀ q, lvF ft st tn q → 0 ≤ (rk q).toInt ∧ (rk q).toInt ≤ 9 := fun q hq => (hI.1.2.1 q (Nat.lt_of_lt_of_le hq.1 (by rw [hd9.2.2.2.1]; exact hpo.2.1 dn T hd9.1 hd9.2.1 (Nat.le_refl _)))).1
  have hwdA : ∀ q, q < ft → 0 ≤ (wd q).toInt ∧ (wd q).toInt ≤ 100 := fun q hq => (hI.1.2.1 q (Nat.lt_of_lt_of_le hq (by rw [hd9.2.2.2.1]; exact hpo.2.1 dn T hd9.1 hd9.2.1 (Nat.le_refl _)))).2
  have hcp5 := INV_cp hI (by omega)
  have hcp1 := hI.2.2.1.2.1
  have hcnt := hI.2.2.2.1
  have hlst := hI.2.2.2.2
  have hlb := mul_514 (a := Sn) (b := C) (by omega)
  have hftA := bdC_F hbdC
  have hrm := room_c (Sn := Sn) (AD := AD) (C := C) (c := cp) (cl := cl) (U := U) (by omega) hI.2.2.1.2.2.2.2.2 hlst.2.2.2.1 hU
  refine la_0_1 l C0 hk9 hL9 hS hl (rfl) (rfl) (rfl) (rfl) ?_
  obtain ⟨hPc, hDc, hFc⟩ := zc_sub (wc := [_, _, _]) hP hD hS hA [0, 2, 3] rfl rfl
  refine zcall (st1 := [.int (-1)]) (va_runV (As := [.int (xs (6 * k9 + 1)), .int (xs (6 * k9 + 2)), .int (xs (6 * k9 + 3)), .int (xs (6 * k9 + 4))]) (rest := []) ⟨hx, hb, hml, hown, hts⟩ (k_feature_4 l dC dI cI cZ cF H.size x sh lw ro bq bp dq dp lv sl (nI bs) ul su (nI dn) fa ft FA (xs (6 * k9 + 1)) (xs (6 * k9 + 2)) (xs (6 * k9 + 3)) (xs (6 * k9 + 4)) (h200f) (hbad)) (csV_249 hts rfl rfl ⟨Nat.le_of_ble_eq_true rfl, Nat.le_of_ble_eq_true rfl⟩) (zPV2 (q0 := 0) (ci := 8) hPc hDc hK3 hXN rfl rfl) rfl rfl hl.1 rfl (lv_room (Nat.le_of_ble_eq_true rfl)) dL_law_185 ⟨show 1000 + 1010 * k9 + cp + 4 * cl ≤ 600000 by omega, show 45000 + 8192 * cp + 512 * cl + U ≤ 7302250 by omega⟩) hS hFc hFc rfl (fun t H locs ht hB hk1 hS => ?_)
  obtain ⟨hP1, hD1⟩ := hB
  rw [ht] at hP1
  obtain ⟨hP, hD⟩ := zkQ (W2 := ((oc8 x (.ref sh) (.ref lw) (.ref ro) (.ref bq) (.ref bp) (.ref dq) (.ref dp) (.ref lv) (.ref sl) (nI dn) (nI bs) ul 4) :: _ :: _ :: _ :: _ :: _ :: _ :: _ :: _ :: _ :: _ :: _ :: _ :: _ :: _ :: _ :: _ :: _ :: _ :: _ :: _ :: _ :: _ :: _ :: _ :: _ :: _ :: _ :: _ :: _ :: _ :: _ :: _ :: _ :: _ :: _ :: _ :: _ :: _ :: _ :: _ :: _ :: _ :: _ :: _ :: _ :: _ :: _ :: _ :: _ :: _ :: _ :: _ :: _ :: _ :: _ :: _ :: _ :: _ :: _ :: _ :: _ :: _ :: _ :: _ :: [])) hP hD [0, 2, 3] (1 :: 4 :: 5 :: 6 :: 7 :: 8 :: 9 :: 10 :: 11 :: 12 :: 13 :: 14 :: 15 :: 16 :: 17 :: 18 :: 19 :: 20 :: 21 :: 22 :: 23 :: 24 :: 25 :: 26 :: 27 :: 28 :: 29 :: 30 :: 31 :: 32 :: 33 :: 34 :: 35 :: 36 :: 37 :: 38 :: 39 :: 40 :: 41 :: 42 :: 43 :: 44 :: 45 :: 46 :: 47 :: 48 :: 49 :: 50 :: 51 :: 52 :: 53 :: 54 :: 55 :: 56 :: 57 :: 58 :: 59 :: 60 :: 61 :: 62 :: 63 :: 64 :: []) (1 :: 4 :: 5 :: 6 :: 7 :: 8 :: 9 :: 10 :: 11 :: 12 :: 13 :: 14 :: 15 :: 16 :: 17 :: 18 :: 19 :: 20 :: 21 :: 22 :: 23 :: 24 :: 25 :: 26 :: 27 :: 28 :: 29 :: 30 :: 31 :: 32 :: 33 :: 34 :: 35 :: 36 :: 37 :: 38 :: 39 :: 40 :: 41 :: 42 :: 43 :: 44 :: 45 :: 46 :: 47 :: 48 :: 49 :: 50 :: 51 :: 52 :: 53 :: 54 :: 55 :: 56 :: 57 :: 58 :: 59 :: 60 :: 61 :: 62 :: 63 :: 64 :: []) [0, 2, 3] (62 :: 0 :: 63 :: 64 :: 1 :: 2 :: 3 :: 4 :: 5 :: 6 :: 7 :: 8 :: 9 :: 10 :: 11 :: 12 :: 13 :: 14 :: 15 :: 16 :: 17 :: 18 :: 19 :: 20 :: 21 :: 22 :: 23 :: 24 :: 25 :: 26 :: 27 :: 28 :: 29 :: 30 :: 31 :: 32 :: 33 :: 34 :: 35 :: 36 :: 37 :: 38 :: 39 :: 40 :: 41 :: 42 :: 43 :: 44 :: 45 :: 46 :: 47 :: 48 :: 49 :: 50 :: 51 :: 52 :: 53 :: 54 :: 55 :: 56 :: 57 :: 58 :: 59 :: 60 :: 61 :: []) 65 rfl rfl rfl rfl rfl rfl rfl rfl rfl hk1 hFc hP1 hD1
  clear hk1 hPc hDc hFc hP1 hD1 ht
  refine lv_pop hx hb dL_law_188 rfl ?_
  refine la_0_2 l C0 hk9 hL9 hS hl (rfl) (rfl) (rfl) (rfl) ?_
  obtain ⟨hPc, hDc, hFc⟩ := zc_sub (wc := [_]) hP hD hS hA [28] rfl rfl
  refine zcall (st1 := [.int (-1)]) (va_runV (As := [.int (xs (6 * k9 + 1)), .int (xs (6 * k9 + 2)), .int (xs (6 * k9 + 3)), .int (xs (6 * k9 + 4))]) (rest := []) ⟨hx, hb, hml, hown, hts⟩ (k_M_feature_4 l dC dI cI cZ cF H.size k0 a (upd I0 26 (nI ln)) J0 (xs (6 * k9 + 1)) (xs (6 * k9 + 2)) (xs (6 * k9 + 3)) (xs (6 * k9 + 4)) (by first | with_reducible assumption | omega)) (csV_250 hts rfl rfl ⟨Nat.le_of_ble_eq_true rfl, Nat.le_of_ble_eq_true rfl⟩) (zPV2 (q0 := 0) (ci := 9) hPc hDc hK3 hXN rfl rfl) rfl rfl hl.1 rfl (lv_room (Nat.le_of_ble_eq_true rfl)) dL_law_210 ⟨show 1000 + 1010 * k9 + cp + 4 * cl ≤ 600000 by omega, show 45000 + 8192 * cp + 512 * cl + U ≤ 7302250 by omega⟩) hS hFc hFc rfl (fun t H locs ht hB hk1 hS => ?_)
  obtain ⟨hP1, hD1⟩ := hB
  rw [ht] at hP1
  obtain ⟨hP, hD⟩ := zkQ (W2 := (_ :: _ :: _ :: _ :: _ :: _ :: _ :: _ :: _ :: _ :: _ :: _ :: _ :: _ :: _ :: _ :: _ :: _ :: _ :: _ :: _ :: _ :: _ :: _ :: _ :: _ :: _ :: _ :: (om k0 a (upd (upd (upd I0 14 4) 15 (I0 15)) 26 (nI ln)) J0) :: _ :: _ :: _ :: _ :: _ :: _ :: _ :: _ :: _ :: _ :: _ :: _ :: _ :: _ :: _ :: _ :: _ :: _ :: _ :: _ :: _ :: _ :: _ :: _ :: _ :: _ :: _ :: _ :: _ :: _ :: _ :: _ :: _ :: _ :: _ :: _ :: [])) hP hD [28] (0 :: 1 :: 2 :: 3 :: 4 :: 5 :: 6 :: 7 :: 8 :: 9 :: 10 :: 11 :: 12 :: 13 :: 14 :: 15 :: 16 :: 17 :: 18 :: 19 :: 20 :: 21 :: 22 :: 23 :: 24 :: 25 :: 26 :: 27 :: 29 :: 30 :: 31 :: 32 :: 33 :: 34 :: 35 :: 36 :: 37 :: 38 :: 39 :: 40 :: 41 :: 42 :: 43 :: 44 :: 45 :: 46 :: 47 :: 48 :: 49 :: 50 :: 51 :: 52 :: 53 :: 54 :: 55 :: 56 :: 57 :: 58 :: 59 :: 60 :: 61 :: 62 :: 63 :: 64 :: []) (0 :: 1 :: 2 :: 3 :: 4 :: 5 :: 6 :: 7 :: 8 :: 9 :: 10 :: 11 :: 12 :: 13 :: 14 :: 15 :: 16 :: 17 :: 18 :: 19 :: 20 :: 21 :: 22 :: 23 :: 24 :: 25 :: 26 :: 27 :: 29 :: 30 :: 31 :: 32 :: 33 :: 34 :: 35 :: 36 :: 37 :: 38 :: 39 :: 40 :: 41 :: 42 :: 43 :: 44 :: 45 :: 46 :: 47 :: 48 :: 49 :: 50 :: 51 :: 52 :: 53 :: 54 :: 55 :: 56 :: 57 :: 58 :: 59 :: 60 :: 61 :: 62 :: 63 :: 64 :: []) [28] (0 :: 1 :: 2 :: 3 :: 4 :: 5 :: 6 :: 7 :: 8 :: 9 :: 10 :: 11 :: 12 :: 13 :: 14 :: 15 :: 16 :: 17 :: 18 :: 19 :: 20 :: 21 :: 22 :: 23 :: 24 :: 25 :: 26 :: 27 :: 64 :: 28 :: 29 :: 30 :: 31 :: 32 :: 33 :: 34 :: 35 :: 36 :: 37 :: 38 :: 39 :: 40 :: 41 :: 42 :: 43 :: 44 :: 45 :: 46 :: 47 :: 48 :: 49 :: 50 :: 51 :: 52 :: 53 :: 54 :: 55 :: 56 :: 57 :: 58 :: 59 :: 60 :: 61 :: 62 :: 63 :: []) 65 rfl rfl rfl rfl rfl rfl rfl rfl rfl hk1 hFc hP1 hD1
  clear hk1 hPc hDc hFc hP1 hD1 ht
  refine lv_pop hx hb dL_law_213 rfl ?_
  refine lv_goto (tgt := 1081) hx hb dL_law_214 rfl ?_
  obtain ⟨hP9, hD9⟩ := zq_part (cx := (_ :: _ :: _ :: _ :: _ :: _ :: _ :: _ :: _ :: _ :: _ :: _ :: _ :: _ :: _ :: _ :: _ :: _ :: _ :: _ :: _ :: _ :: _ :: _ :: _ :: _ :: _ :: _ :: _ :: _ :: _ :: _ :: _ :: _ :: _ :: _ :: _ :: _ :: _ :: _ :: _ :: _ :: _ :: _ :: _ :: _ :: _ :: _ :: _ :: _ :: _ :: _ :: _ :: _ :: _ :: _ :: _ :: _ :: _ :: _ :: _ :: _ :: _ :: _ :: _ :: [])) hP hD (0 :: 1 :: 2 :: 3 :: 4 :: 5 :: 6 :: 7 :: 8 :: 9 :: 10 :: 11 :: 12 :: 13 :: 14 :: 15 :: 16 :: 17 :: 18 :: 19 :: 20 :: 21 :: 22 :: 23 :: 24 :: 25 :: 26 :: 27 :: 28 :: 29 :: 30 :: 31 :: 32 :: 33 :: 34 :: 35 :: 36 :: 37 :: 38 :: 39 :: 40 :: 41 :: 42 :: 43 :: 44 :: 45 :: 46 :: 47 :: 48 :: 49 :: 50 :: 51 :: 52 :: 53 :: 54 :: 55 :: 56 :: 57 :: 58 :: 59 :: 60 :: 61 :: 62 :: 63 :: 64 :: []) rfl rfl
  refine W.widen (k := 1000 + 1010 * (k9 + 1) + cp + 4 * cl) (n := 45000 + 8192 * cp + 512 * cl + U) (by omega) (by omega) ?_
  have e26 : upd (upd (upd (upd I0 14 4) 15 (I0 15)) 26 (nI ln)) 26 (nI ln) = (upd (upd (upd I0 14 4) 15 (I0 15)) 26 (nI ln)) := up_same rfl
  exact hnext cp cl U H locs ls (lawI_in L f FA ea nd nt nw ul 4 mc9 rd rt rw P Q TX TY WX WY AR b1 b2 b3 b4 b5 b6 b7 b8 c1 c2 c3 c4 a1 a2 a3 a4 nv RA WT EX EY GR LV y1 y2 y3 y4 a (upd (upd (upd I0 14 4) 15 (I0 15)) 26 (nI ln)) J0 kd st gb it pa pb rk wd tw tn mn cx cy sa shs wh of9 we la lb lc ld P0 Q0 S0 ox oy mt wi ins T0 fl mk jx jy gr bs dn T ft Sn AD C ln FT cc W9 V VX VY (by rw [e26]; exact hP9) (by rw [e26]; exact hD9) (hB) (INV_K hI) ⟨hm0, hm19, hm20, hm21⟩ (by omega)) hS (lv_sub hl [0, 1, 2, 3] rfl)
set_option maxHeartbeats 4000000 in
set_option maxRecDepth 100000 in
theorem lc_feature_8 {p : Program} {e : Env} {s : State} {m : MethodId} {below : List Frame} {meth : Method} {c : Code} (l : Launch) {b L9 : Nat} {xs : Nat → Int32} (C0 : lw_At p s m meth c b L9 xs) (dC : Nat → ClassId) (dI : Nat → Nat → Nat) (cI cZ cF cO : ClassId) (e0 mi : Nat) (x sl sh fa lw dr dx dy tg tx ty wy wx wz br bo aa ro za zw zx zy zg bq bp dq dp lv k0 : Nat) (hK : va_K (dC, dI) classes (zTyO cI cZ cF cO) s) (hXL : zXL e0 mi (fun q : Nat => s.heap.size ≤ q) s) (L : List Nat) (f : Nat → va_E) (FA : Nat → Option Nat) (ea : Nat) (nd : Nat) (nt : Nat) (nw : Nat) (ul : Int32) (su : Int32) (mc9 : Int32) (rd : Int32) (rt : Int32) (rw : Int32) (P : Nat → Int32) (Q : Nat → Int32) (TX : Nat → Int32) (TY : Nat → Int32) (WX : Nat → Int32) (WY : Nat → Int32) (AR : Nat → Int32) (b1 : Int32) (b2 : Int32) (b3 : Int32) (b4 : Int32) (b5 : Int32) (b6 : Int32) (b7 : Int32) (b8 : Int32) (c1 : Int32) (c2 : Int32) (c3 : Int32) (c4 : Int32) (a1 : Int32) (a2 : Int32) (a3 : Int32) (a4 : Int32) (nv : Int32) (RA : Nat → Option Nat) (WT : Nat → Int32) (EX : Nat → Int32) (EY : Nat → Int32) (GR : Nat → Int32) (LV : Nat → Int32) (y1 : Int64) (y2 : Int64) (y3 : Int64) (y4 : Int64) (a : Nat → Nat) (I0 : Nat → Int32) (J0 : Nat → Int64) (kd : Nat → Int32) (st : Nat → Int32) (gb : Nat → Int32) (it : Nat → Int32) (pa : Nat → Int32) (pb : Nat → Int32) (rk : Nat → Int32) (wd : Nat → Int32) (tw : Nat → Int32) (tn : Nat → Int32) (mn : Nat → Int32) (cx : Nat → Int32) (cy : Nat → Int32) (sa : Nat → Int32) (shs : Nat → Int32) (wh : Nat → Int32) (of9 : Nat → Int32) (we : Nat → Int32) (la : Nat → Int32) (lb : Nat → Int32) (lc : Nat → Int32) (ld : Nat → Int32) (P0 : Nat → Int32) (Q0 : Nat → Int32) (S0 : Nat → Int32) (ox : Nat → Int32) (oy : Nat → Int32) (mt : Nat → Int32) (wi : Nat → Int32) (ins : Nat → Int32) (T0 : Nat → Int32) (fl : Nat → Int32) (mk : Nat → Int32) (jx : Nat → Int32) (jy : Nat → Int32) (gr : Nat → Int32) (bs : Nat) (dn : Nat) (T : Nat) (ft : Nat) (Sn : Nat) (AD : Nat) (C : Nat) (ln : Nat) (FT : Nat → Nat) (cc : Nat → Nat) (W9 : Nat → Nat) (V : Nat → Nat → Nat → Int32) (VX : Nat → Nat → Int32) (VY : Nat → Nat → Int32) (cp cl U k9 : Nat) (hk9 : 6 * k9 + 6 ≤ L9) (hL9 : L9 ≤ 3072) {H : Heap} {locs : List Loc} {ls : Array Slot} (hPD : zPD (dC, dI) classes (fun q : Nat => s.heap.size ≤ q) (((oc8 x (.ref sh) (.ref lw) (.ref ro) (.ref bq) (.ref bp) (.ref dq) (.ref dp) (.ref lv) (.ref sl) (nI dn) (nI bs) ul su) :: (oc10 sl mc9 (.ref ea) (nI T)) :: (oc7 sh (.ref fa) (nI ft)) :: (oq fa cF 200 FA) :: (oc3 lw (.ref dr) (.ref tg) (.ref wy) (.ref br) (.ref bo) (.ref aa)) :: (oc6 dr (.ref dx) (.ref dy) (nI nd) rd) :: (oa dx cI 40 P) :: (oa dy cI 40 Q) :: (oc6 tg (.ref tx) (.ref ty) (nI nt) rt) :: (oa tx cI 3 TX) :: (oa ty cI 3 TY) :: (oc6 wy (.ref wx) (.ref wz) (nI nw) rw) :: (oa wx cI 2 WX) :: (oa wz cI 2 WY) :: (oc0 br b1 b2 b3 b4) :: (oc0 bo b5 b6 b7 b8) :: (oa aa cI 40 AR) :: (oc5 ro (.ref za) (.ref zw) (.ref zx) (.ref zy) (.ref zg) nv) :: (oq za cF 200 RA) :: (oa zw cI 200 WT) :: (oa zx cI 400 EX) :: (oa zy cI 400 EY) :: (oa zg cI 400 GR) :: (oc0 bq c1 c2 c3 c4) :: (oc0 bp a1 a2 a3 a4) :: (oc2 dq y1 y2) :: (oc2 dp y3 y4) :: (oa lv cZ 200 LV) :: (om k0 a (upd I0 26 (nI ln)) J0) :: (oa (a 1) cI 201 kd) :: (oa (a 5) cI 201 st) :: (oa (a 7) cI 201 gb) :: (oa (a 10) cI 201 it) :: (oa (a 8) cI 201 pa) :: (oa (a 9) cI 201 pb) :: (oa (a 2) cI 201 rk) :: (oa (a 3) cI 201 wd) :: (oa (a 4) cI 201 tw) :: (oa (a 6) cZ 201 tn) :: (oa (a 11) cI 201 mn) :: (oa (a 12) cI 8040 cx) :: (oa (a 13) cI 8040 cy) :: (oa (a 27) cI 516 sa) :: (oa (a 28) cI (4096 * cp) shs) :: (oa (a 16) cI 514 wh) :: (oa (a 17) cI 514 of9) :: (oa (a 18) cI 514 we) :: (oa (a 22) cI (64 * cl) la) :: (oa (a 23) cI (64 * cl) lb) :: (oa (a 24) cI (64 * cl) lc) :: (oa (a 25) cI (64 * cl) ld) :: (oa (a 29) cI 42 P0) :: (oa (a 30) cI 42 Q0) :: (oa (a 32) cI 8 S0) :: (oa (a 33) cI 42 ox) :: (oa (a 34) cI 42 oy) :: (oa (a 37) cZ 201 mt) :: (oa (a 38) cZ 201 wi) :: (oa (a 39) cZ 8040 ins) :: (oa (a 40) cI 6 T0) :: (oa (a 43) cZ 40 fl) :: (oa (a 50) cZ 201 mk) :: (oa (a 51) cI 402 jx) :: (oa (a 52) cI 402 jy) :: (oa (a 53) cI 402 gr) :: []) ++ va_pl L f) H) (hS : va_S (fun q : Nat => s.heap.size ≤ q) s.heap H locs) (hl : lv_has ls 4 [(3, .int (nI (6 * k9))), (2, .ref k0), (1, .ref x), (0, .ref b)]) (hB : shB cI cO L f e0 FA ea bs dn T ft FT V VX VY tn rk wd tw pa pb wh of9 we kd st gb it mn cx cy) (hI : INV k9 Sn AD C cc W9 bs T ft cp ln cl FT V VX VY tn rk wd tw pa pb kd st it mn cx cy sa shs lb lc) (hM : I0 0 = nI ft ∧ I0 19 = nI dn ∧ I0 20 = nI (T - dn) ∧ I0 21 = nI bs) (hU : U ≤ Sn * (28 * (AD + C) + 1000) + 200 * (AD + C)) (hgood : (0 ≤ (xs (6 * k9 + 1)).toInt ∧ (xs (6 * k9 + 1)).toInt ≤ 6) ∧ (0 ≤ (xs (6 * k9 + 2)).toInt ∧ (xs (6 * k9 + 2)).toInt ≤ 9) ∧ (0 ≤ (xs (6 * k9 + 3)).toInt ∧ (xs (6 * k9 + 3)).toInt ≤ 100) ∧ (0 ≤ (xs (6 * k9 + 4)).toInt ∧ (xs (6 * k9 + 4)).toInt ≤ 9)) (hfull : ft = 200) (hnext : ∀ (cp1 cl1 U1 : Nat) (H : Heap) (locs : List Loc) (ls : Array Slot), lawI s dC dI cI cZ cF cO e0 mi x sl sh fa lw dr dx dy tg tx ty wy wx wz br bo aa ro za zw zx zy zg bq bp dq dp lv k0 (k9 + 1) cp1 cl1 U1 H → va_S (fun q : Nat => s.heap.size ≤ q) s.heap H locs → lv_has ls 4 [(3, .int (nI (6 * k9))), (2, .ref k0), (1, .ref x), (0, .ref b)] → W p l e room_1 s m #[Value.ref b] below meth c H locs (1000 + 1010 * (k9 + 1) + cp1 + 4 * cl1) (45000 + 8192 * cp1 + 512 * cl1 + U1) (lw_Z below #[Value.ref b] s) (F0 m 1081 ls [])) : W p l e room_1 s m #[Value.ref b] below meth c H locs (1000 + 1010 * k9 + cp + 4 * cl) (45000 + 8192 * cp + 512 * cl + U) (lw_Z below #[Value.ref b] s) (F0 m 164 ls []) := by
  obtain ⟨hP, hD⟩ := hPD
  obtain ⟨hx, hb, hr, hml, hown, hts1, hX, hbl, hlocks, hgv⟩ := id C0
  have hts : ∀ w9 ∈ ws0, w9.before #[Value.ref b] s = true := fun w9 h => hts1 w9 (List.mem_filter.mp h).1
  have hA : ∀ q : Nat, s.heap.size ≤ q → (fun q : Nat => s.heap.size ≤ q) q := fun _ h => h
  have hbA : ¬ (fun q : Nat => s.heap.size ≤ q) b := Nat.not_le.mpr hbl
  have hXN := hXL.1
  have hK3 := hK.sub [0, 1, 2] rfl
  obtain ⟨hm0, hm19, hm20, hm21⟩ := hM
  have hpo := shB_po hB
  have hK512 : k9 + 1 ≤ 512 := (by omega)
  have hwfS := hI.1.1
  have hbdC := hI.1.2.2.1
  have hT0 := hI.1.2.2.2
  have hd9 := hpo.1
  have h200t : ∀ t, bs ≤ t → t ≤ T → FT t ≤ 200 := fun t t1 t2 => Nat.le_trans (hpo.2.1 t T t1 t2 (Nat.le_refl _)) hd9.2.2.2.2
  have h200f : ft ≤ 200 := (by rw [hd9.2.2.2.1]; exact h200t dn hd9.1 hd9.2.1)
  have hrkA : ∀ q, lvF ft st tn q → 0 ≤ (rk q).toInt ∧ (rk q).toInt ≤ 9 := fun q hq => (hI.1.2.1 q (Nat.lt_of_lt_of_le hq.1 (by rw [hd9.2.2.2.1]; exact hpo.2.1 dn T hd9.1 hd9.2.1 (Nat.le_refl _)))).1
  have hwdA : ∀ q, q < ft → 0 ≤ (wd q).toInt ∧ (wd q).toInt ≤ 100 := fun q hq => (hI.1.2.1 q (Nat.lt_of_lt_of_le hq (by rw [hd9.2.2.2.1]; exact hpo.2.1 dn T hd9.1 hd9.2.1 (Nat.le_refl _)))).2
  have hcp5 := INV_cp hI (by omega)
  have hcp1 := hI.2.2.1.2.1
  have hcnt := hI.2.2.2.1
  have hlst := hI.2.2.2.2
  have hlb := mul_514 (a := Sn) (b := C) (by omega)
  have hftA := bdC_F hbdC
  have hrm := room_c (Sn := Sn) (AD := AD) (C := C) (c := cp) (cl := cl) (U := U) (by omega) hI.2.2.1.2.2.2.2.2 hlst.2.2.2.1 hU
  refine la_0_1 l C0 hk9 hL9 hS hl (rfl) (rfl) (rfl) (rfl) ?_
  obtain ⟨hPc, hDc, hFc⟩ := zc_sub (wc := [_, _, _]) hP hD hS hA [0, 2, 3] rfl rfl
  refine zcall (st1 := [.int (-1)]) (va_runV (As := [.int (xs (6 * k9 + 1)), .int (xs (6 * k9 + 2)), .int (xs (6 * k9 + 3)), .int (xs (6 * k9 + 4))]) (rest := []) ⟨hx, hb, hml, hown, hts⟩ (k_feature_8 l dC dI cI cZ cF H.size x sh lw ro bq bp dq dp lv sl (nI bs) ul su (nI dn) fa ft FA (xs (6 * k9 + 1)) (xs (6 * k9 + 2)) (xs (6 * k9 + 3)) (xs (6 * k9 + 4)) (h200f) (hgood) (hfull)) (csV_249 hts rfl rfl ⟨Nat.le_of_ble_eq_true rfl, Nat.le_of_ble_eq_true rfl⟩) (zPV2 (q0 := 0) (ci := 8) hPc hDc hK3 hXN rfl rfl) rfl rfl hl.1 rfl (lv_room (Nat.le_of_ble_eq_true rfl)) dL_law_185 ⟨show 1000 + 1010 * k9 + cp + 4 * cl ≤ 600000 by omega, show 45000 + 8192 * cp + 512 * cl + U ≤ 7302250 by omega⟩) hS hFc hFc rfl (fun t H locs ht hB hk1 hS => ?_)
  obtain ⟨hP1, hD1⟩ := hB
  rw [ht] at hP1
  obtain ⟨hP, hD⟩ := zkQ (W2 := ((oc8 x (.ref sh) (.ref lw) (.ref ro) (.ref bq) (.ref bp) (.ref dq) (.ref dp) (.ref lv) (.ref sl) (nI dn) (nI bs) ul 8) :: _ :: _ :: _ :: _ :: _ :: _ :: _ :: _ :: _ :: _ :: _ :: _ :: _ :: _ :: _ :: _ :: _ :: _ :: _ :: _ :: _ :: _ :: _ :: _ :: _ :: _ :: _ :: _ :: _ :: _ :: _ :: _ :: _ :: _ :: _ :: _ :: _ :: _ :: _ :: _ :: _ :: _ :: _ :: _ :: _ :: _ :: _ :: _ :: _ :: _ :: _ :: _ :: _ :: _ :: _ :: _ :: _ :: _ :: _ :: _ :: _ :: _ :: _ :: _ :: [])) hP hD [0, 2, 3] (1 :: 4 :: 5 :: 6 :: 7 :: 8 :: 9 :: 10 :: 11 :: 12 :: 13 :: 14 :: 15 :: 16 :: 17 :: 18 :: 19 :: 20 :: 21 :: 22 :: 23 :: 24 :: 25 :: 26 :: 27 :: 28 :: 29 :: 30 :: 31 :: 32 :: 33 :: 34 :: 35 :: 36 :: 37 :: 38 :: 39 :: 40 :: 41 :: 42 :: 43 :: 44 :: 45 :: 46 :: 47 :: 48 :: 49 :: 50 :: 51 :: 52 :: 53 :: 54 :: 55 :: 56 :: 57 :: 58 :: 59 :: 60 :: 61 :: 62 :: 63 :: 64 :: []) (1 :: 4 :: 5 :: 6 :: 7 :: 8 :: 9 :: 10 :: 11 :: 12 :: 13 :: 14 :: 15 :: 16 :: 17 :: 18 :: 19 :: 20 :: 21 :: 22 :: 23 :: 24 :: 25 :: 26 :: 27 :: 28 :: 29 :: 30 :: 31 :: 32 :: 33 :: 34 :: 35 :: 36 :: 37 :: 38 :: 39 :: 40 :: 41 :: 42 :: 43 :: 44 :: 45 :: 46 :: 47 :: 48 :: 49 :: 50 :: 51 :: 52 :: 53 :: 54 :: 55 :: 56 :: 57 :: 58 :: 59 :: 60 :: 61 :: 62 :: 63 :: 64 :: []) [0, 2, 3] (62 :: 0 :: 63 :: 64 :: 1 :: 2 :: 3 :: 4 :: 5 :: 6 :: 7 :: 8 :: 9 :: 10 :: 11 :: 12 :: 13 :: 14 :: 15 :: 16 :: 17 :: 18 :: 19 :: 20 :: 21 :: 22 :: 23 :: 24 :: 25 :: 26 :: 27 :: 28 :: 29 :: 30 :: 31 :: 32 :: 33 :: 34 :: 35 :: 36 :: 37 :: 38 :: 39 :: 40 :: 41 :: 42 :: 43 :: 44 :: 45 :: 46 :: 47 :: 48 :: 49 :: 50 :: 51 :: 52 :: 53 :: 54 :: 55 :: 56 :: 57 :: 58 :: 59 :: 60 :: 61 :: []) 65 rfl rfl rfl rfl rfl rfl rfl rfl rfl hk1 hFc hP1 hD1
  clear hk1 hPc hDc hFc hP1 hD1 ht
  refine lv_pop hx hb dL_law_188 rfl ?_
  refine la_0_2 l C0 hk9 hL9 hS hl (rfl) (rfl) (rfl) (rfl) ?_
  obtain ⟨hPc, hDc, hFc⟩ := zc_sub (wc := [_]) hP hD hS hA [28] rfl rfl
  refine zcall (st1 := [.int (-1)]) (va_runV (As := [.int (xs (6 * k9 + 1)), .int (xs (6 * k9 + 2)), .int (xs (6 * k9 + 3)), .int (xs (6 * k9 + 4))]) (rest := []) ⟨hx, hb, hml, hown, hts⟩ (k_M_feature_8 l dC dI cI cZ cF H.size k0 a (upd I0 26 (nI ln)) J0 (xs (6 * k9 + 1)) (xs (6 * k9 + 2)) (xs (6 * k9 + 3)) (xs (6 * k9 + 4)) (by first | with_reducible assumption | omega) (by rw [← hfull]; exact hm0)) (csV_250 hts rfl rfl ⟨Nat.le_of_ble_eq_true rfl, Nat.le_of_ble_eq_true rfl⟩) (zPV2 (q0 := 0) (ci := 9) hPc hDc hK3 hXN rfl rfl) rfl rfl hl.1 rfl (lv_room (Nat.le_of_ble_eq_true rfl)) dL_law_210 ⟨show 1000 + 1010 * k9 + cp + 4 * cl ≤ 600000 by omega, show 45000 + 8192 * cp + 512 * cl + U ≤ 7302250 by omega⟩) hS hFc hFc rfl (fun t H locs ht hB hk1 hS => ?_)
  obtain ⟨hP1, hD1⟩ := hB
  rw [ht] at hP1
  obtain ⟨hP, hD⟩ := zkQ (W2 := (_ :: _ :: _ :: _ :: _ :: _ :: _ :: _ :: _ :: _ :: _ :: _ :: _ :: _ :: _ :: _ :: _ :: _ :: _ :: _ :: _ :: _ :: _ :: _ :: _ :: _ :: _ :: _ :: (om k0 a (upd (upd (upd I0 14 8) 15 (I0 15)) 26 (nI ln)) J0) :: _ :: _ :: _ :: _ :: _ :: _ :: _ :: _ :: _ :: _ :: _ :: _ :: _ :: _ :: _ :: _ :: _ :: _ :: _ :: _ :: _ :: _ :: _ :: _ :: _ :: _ :: _ :: _ :: _ :: _ :: _ :: _ :: _ :: _ :: _ :: _ :: [])) hP hD [28] (0 :: 1 :: 2 :: 3 :: 4 :: 5 :: 6 :: 7 :: 8 :: 9 :: 10 :: 11 :: 12 :: 13 :: 14 :: 15 :: 16 :: 17 :: 18 :: 19 :: 20 :: 21 :: 22 :: 23 :: 24 :: 25 :: 26 :: 27 :: 29 :: 30 :: 31 :: 32 :: 33 :: 34 :: 35 :: 36 :: 37 :: 38 :: 39 :: 40 :: 41 :: 42 :: 43 :: 44 :: 45 :: 46 :: 47 :: 48 :: 49 :: 50 :: 51 :: 52 :: 53 :: 54 :: 55 :: 56 :: 57 :: 58 :: 59 :: 60 :: 61 :: 62 :: 63 :: 64 :: []) (0 :: 1 :: 2 :: 3 :: 4 :: 5 :: 6 :: 7 :: 8 :: 9 :: 10 :: 11 :: 12 :: 13 :: 14 :: 15 :: 16 :: 17 :: 18 :: 19 :: 20 :: 21 :: 22 :: 23 :: 24 :: 25 :: 26 :: 27 :: 29 :: 30 :: 31 :: 32 :: 33 :: 34 :: 35 :: 36 :: 37 :: 38 :: 39 :: 40 :: 41 :: 42 :: 43 :: 44 :: 45 :: 46 :: 47 :: 48 :: 49 :: 50 :: 51 :: 52 :: 53 :: 54 :: 55 :: 56 :: 57 :: 58 :: 59 :: 60 :: 61 :: 62 :: 63 :: 64 :: []) [28] (0 :: 1 :: 2 :: 3 :: 4 :: 5 :: 6 :: 7 :: 8 :: 9 :: 10 :: 11 :: 12 :: 13 :: 14 :: 15 :: 16 :: 17 :: 18 :: 19 :: 20 :: 21 :: 22 :: 23 :: 24 :: 25 :: 26 :: 27 :: 64 :: 28 :: 29 :: 30 :: 31 :: 32 :: 33 :: 34 :: 35 :: 36 :: 37 :: 38 :: 39 :: 40 :: 41 :: 42 :: 43 :: 44 :: 45 :: 46 :: 47 :: 48 :: 49 :: 50 :: 51 :: 52 :: 53 :: 54 :: 55 :: 56 :: 57 :: 58 :: 59 :: 60 :: 61 :: 62 :: 63 :: []) 65 rfl rfl rfl rfl rfl rfl rfl rfl rfl hk1 hFc hP1 hD1
  clear hk1 hPc hDc hFc hP1 hD1 ht
  refine lv_pop hx hb dL_law_213 rfl ?_
  refine lv_goto (tgt := 1081) hx hb dL_law_214 rfl ?_
  obtain ⟨hP9, hD9⟩ := zq_part (cx := (_ :: _ :: _ :: _ :: _ :: _ :: _ :: _ :: _ :: _ :: _ :: _ :: _ :: _ :: _ :: _ :: _ :: _ :: _ :: _ :: _ :: _ :: _ :: _ :: _ :: _ :: _ :: _ :: _ :: _ :: _ :: _ :: _ :: _ :: _ :: _ :: _ :: _ :: _ :: _ :: _ :: _ :: _ :: _ :: _ :: _ :: _ :: _ :: _ :: _ :: _ :: _ :: _ :: _ :: _ :: _ :: _ :: _ :: _ :: _ :: _ :: _ :: _ :: _ :: _ :: [])) hP hD (0 :: 1 :: 2 :: 3 :: 4 :: 5 :: 6 :: 7 :: 8 :: 9 :: 10 :: 11 :: 12 :: 13 :: 14 :: 15 :: 16 :: 17 :: 18 :: 19 :: 20 :: 21 :: 22 :: 23 :: 24 :: 25 :: 26 :: 27 :: 28 :: 29 :: 30 :: 31 :: 32 :: 33 :: 34 :: 35 :: 36 :: 37 :: 38 :: 39 :: 40 :: 41 :: 42 :: 43 :: 44 :: 45 :: 46 :: 47 :: 48 :: 49 :: 50 :: 51 :: 52 :: 53 :: 54 :: 55 :: 56 :: 57 :: 58 :: 59 :: 60 :: 61 :: 62 :: 63 :: 64 :: []) rfl rfl
  refine W.widen (k := 1000 + 1010 * (k9 + 1) + cp + 4 * cl) (n := 45000 + 8192 * cp + 512 * cl + U) (by omega) (by omega) ?_
  have e26 : upd (upd (upd (upd I0 14 8) 15 (I0 15)) 26 (nI ln)) 26 (nI ln) = (upd (upd (upd I0 14 8) 15 (I0 15)) 26 (nI ln)) := up_same rfl
  exact hnext cp cl U H locs ls (lawI_in L f FA ea nd nt nw ul 8 mc9 rd rt rw P Q TX TY WX WY AR b1 b2 b3 b4 b5 b6 b7 b8 c1 c2 c3 c4 a1 a2 a3 a4 nv RA WT EX EY GR LV y1 y2 y3 y4 a (upd (upd (upd I0 14 8) 15 (I0 15)) 26 (nI ln)) J0 kd st gb it pa pb rk wd tw tn mn cx cy sa shs wh of9 we la lb lc ld P0 Q0 S0 ox oy mt wi ins T0 fl mk jx jy gr bs dn T ft Sn AD C ln FT cc W9 V VX VY (by rw [e26]; exact hP9) (by rw [e26]; exact hD9) (hB) (INV_K hI) ⟨hm0, hm19, hm20, hm21⟩ (by omega)) hS (lv_sub hl [0, 1, 2, 3] rfl)
end
