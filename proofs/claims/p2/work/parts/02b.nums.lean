/-! numbers: a truth as an int, whole numbers as ints, what a comparison says of whole numbers -/
noncomputable def pI (p : Prop) : Int32 := @ite Int32 p (Classical.propDecidable p) 1 0
theorem zp_t {p : Prop} (h : p) : pI p = 1 := by unfold pI; rw [if_pos h]
theorem zp_f {p : Prop} (h : ¬ p) : pI p = 0 := by unfold pI; rw [if_neg h]
theorem zp_0 {p : Prop} (h : pI p = 0) : ¬ p := fun q => by rw [zp_t q] at h; exact absurd h (by decide)
theorem zp_1 {p : Prop} (h : ¬ pI p = 0) : p := Classical.byContradiction fun q => h (zp_f q)
theorem zp_iff {p q : Prop} (h : p ↔ q) : pI p = pI q := by rw [propext h]
theorem zp_and (p : Prop) : pI p &&& 1 = pI p := by
  rcases Classical.em p with h | h
  · rw [zp_t h]; decide
  · rw [zp_f h]; decide
theorem zp_nar (p : Prop) : narrow .boolean (.int (pI p)) = .int (pI p) := by show Value.int (pI p &&& 1) = _; rw [zp_and]
theorem zp_fit (p : Prop) : fits .boolean (.int (pI p)) = true := by
  rcases Classical.em p with h | h
  · rw [zp_t h]; rfl
  · rw [zp_f h]; rfl
theorem fb_bmod {z : Int} (h1 : -2147483648 ≤ z) (h2 : z < 2147483648) : z.bmod (2 ^ 32) = z := by
  rw [Int.bmod_eq_of_le (by omega) (by omega)]
theorem fb_addI {x y : Int32} (h1 : -2147483648 ≤ x.toInt + y.toInt) (h2 : x.toInt + y.toInt < 2147483648) : (x + y).toInt = x.toInt + y.toInt := by
  rw [Int32.toInt_add, fb_bmod h1 h2]
theorem fb_subI {x y : Int32} (h1 : -2147483648 ≤ x.toInt - y.toInt) (h2 : x.toInt - y.toInt < 2147483648) : (x - y).toInt = x.toInt - y.toInt := by
  rw [Int32.toInt_sub, fb_bmod h1 h2]
theorem fb_mulI {x y : Int32} (h1 : -2147483648 ≤ x.toInt * y.toInt) (h2 : x.toInt * y.toInt < 2147483648) : (x * y).toInt = x.toInt * y.toInt := by
  rw [Int32.toInt_mul, fb_bmod h1 h2]
theorem fb_bmodL {z : Int} (h1 : -9223372036854775808 ≤ z) (h2 : z < 9223372036854775808) : z.bmod (2 ^ 64) = z := by
  rw [Int.bmod_eq_of_le (by omega) (by omega)]
theorem fb_addL {x y : Int64} (h1 : -9223372036854775808 ≤ x.toInt + y.toInt) (h2 : x.toInt + y.toInt < 9223372036854775808) : (x + y).toInt = x.toInt + y.toInt := by
  rw [Int64.toInt_add, fb_bmodL h1 h2]
theorem fb_subL {x y : Int64} (h1 : -9223372036854775808 ≤ x.toInt - y.toInt) (h2 : x.toInt - y.toInt < 9223372036854775808) : (x - y).toInt = x.toInt - y.toInt := by
  rw [Int64.toInt_sub, fb_bmodL h1 h2]
theorem fb_mulL {x y : Int64} (h1 : -9223372036854775808 ≤ x.toInt * y.toInt) (h2 : x.toInt * y.toInt < 9223372036854775808) : (x * y).toInt = x.toInt * y.toInt := by
  rw [Int64.toInt_mul, fb_bmodL h1 h2]
def iI (z : Int) : Int32 := Int32.ofInt z
def jI (z : Int) : Int64 := Int64.ofInt z
theorem iI_toInt {z : Int} (h : -2147483648 ≤ z ∧ z < 2147483648) : (iI z).toInt = z := by
  unfold iI; rw [Int32.toInt_ofInt, fb_bmod h.1 h.2]
theorem jI_toInt {z : Int} (h : -9223372036854775808 ≤ z ∧ z < 9223372036854775808) : (jI z).toInt = z := by
  unfold jI; rw [Int64.toInt_ofInt, fb_bmodL h.1 h.2]
theorem iI_of {x : Int32} {z : Int} (h : x.toInt = z) : x = iI z := by rw [← h]; exact (Int32.ofInt_toInt x).symm
theorem jI_of {x : Int64} {z : Int} (h : x.toInt = z) : x = jI z := by rw [← h]; exact (Int64.ofInt_toInt x).symm
theorem zc_eq {x y : Int32} {a b : Int} (hx : x.toInt = a) (hy : y.toInt = b) (h : x = y) : a = b := by rw [← hx, ← hy, h]
theorem zc_ne {x y : Int32} {a b : Int} (hx : x.toInt = a) (hy : y.toInt = b) (h : ¬ x = y) : ¬ a = b := fun q => h (Int32.toInt_inj.mp (by rw [hx, hy, q]))
theorem zc_lt {x y : Int32} {a b : Int} (hx : x.toInt = a) (hy : y.toInt = b) (h : x < y) : a < b := by rw [← hx, ← hy]; exact Int32.lt_iff_toInt_lt.mp h
theorem zc_nlt {x y : Int32} {a b : Int} (hx : x.toInt = a) (hy : y.toInt = b) (h : ¬ x < y) : b ≤ a := Int.not_lt.mp fun q => h (Int32.lt_iff_toInt_lt.mpr (by rw [hx, hy]; exact q))
theorem zc_le {x y : Int32} {a b : Int} (hx : x.toInt = a) (hy : y.toInt = b) (h : x ≤ y) : a ≤ b := by rw [← hx, ← hy]; exact Int32.le_iff_toInt_le.mp h
theorem zc_nle {x y : Int32} {a b : Int} (hx : x.toInt = a) (hy : y.toInt = b) (h : ¬ x ≤ y) : b < a := Int.not_le.mp fun q => h (Int32.le_iff_toInt_le.mpr (by rw [hx, hy]; exact q))
theorem zl_eq {x y : Int64} {a b : Int} (hx : x.toInt = a) (hy : y.toInt = b) (h : lg_cmp x y = 0) : a = b := by rw [← hx, ← hy, (lg_cmp_eq x y).mp h]
theorem zl_ne {x y : Int64} {a b : Int} (hx : x.toInt = a) (hy : y.toInt = b) (h : ¬ lg_cmp x y = 0) : ¬ a = b := fun q => h ((lg_cmp_eq x y).mpr (Int64.toInt_inj.mp (by rw [hx, hy, q])))
theorem zl_lt {x y : Int64} {a b : Int} (hx : x.toInt = a) (hy : y.toInt = b) (h : lg_cmp x y < 0) : a < b := by rw [← hx, ← hy]; exact Int64.lt_iff_toInt_lt.mp ((lg_cmp_lt x y).mp h)
theorem zl_nlt {x y : Int64} {a b : Int} (hx : x.toInt = a) (hy : y.toInt = b) (h : ¬ lg_cmp x y < 0) : b ≤ a := Int.not_lt.mp fun q => h ((lg_cmp_lt x y).mpr (Int64.lt_iff_toInt_lt.mpr (by rw [hx, hy]; exact q)))
theorem zl_ge {x y : Int64} {a b : Int} (hx : x.toInt = a) (hy : y.toInt = b) (h : 0 ≤ lg_cmp x y) : b ≤ a := by rw [← hx, ← hy]; exact Int64.le_iff_toInt_le.mp ((lg_cmp_ge x y).mp h)
theorem zl_nge {x y : Int64} {a b : Int} (hx : x.toInt = a) (hy : y.toInt = b) (h : ¬ 0 ≤ lg_cmp x y) : a < b := Int.not_le.mp fun q => h ((lg_cmp_ge x y).mpr (Int64.le_iff_toInt_le.mpr (by rw [hx, hy]; exact q)))
theorem zl_gt {x y : Int64} {a b : Int} (hx : x.toInt = a) (hy : y.toInt = b) (h : 0 < lg_cmp x y) : b < a := by rw [← hx, ← hy]; exact Int64.lt_iff_toInt_lt.mp ((lg_cmp_gt x y).mp h)
theorem zl_ngt {x y : Int64} {a b : Int} (hx : x.toInt = a) (hy : y.toInt = b) (h : ¬ 0 < lg_cmp x y) : a ≤ b := Int.not_lt.mp fun q => h ((lg_cmp_gt x y).mpr (Int64.lt_iff_toInt_lt.mpr (by rw [hx, hy]; exact q)))
theorem zl_le {x y : Int64} {a b : Int} (hx : x.toInt = a) (hy : y.toInt = b) (h : lg_cmp x y ≤ 0) : a ≤ b := by rw [← hx, ← hy]; exact Int64.le_iff_toInt_le.mp ((lg_cmp_le x y).mp h)
theorem zl_nle {x y : Int64} {a b : Int} (hx : x.toInt = a) (hy : y.toInt = b) (h : ¬ lg_cmp x y ≤ 0) : b < a := Int.not_le.mp fun q => h ((lg_cmp_le x y).mpr (Int64.le_iff_toInt_le.mpr (by rw [hx, hy]; exact q)))
theorem zmax {x y v : Int32} {a b : Int} (hx : x.toInt = a) (hy : y.toInt = b) (h : v = if x < y then y else x) : v.toInt = max a b := by
  by_cases q : x < y
  · rw [h, if_pos q, hy]; have := zc_lt hx hy q; omega
  · rw [h, if_neg q, hx]; have := zc_nlt hx hy q; omega
theorem zmin {x y v : Int32} {a b : Int} (hx : x.toInt = a) (hy : y.toInt = b) (h : v = if y < x then y else x) : v.toInt = min a b := by
  by_cases q : y < x
  · rw [h, if_pos q, hy]; have := zc_lt hy hx q; omega
  · rw [h, if_neg q, hx]; have := zc_nlt hy hx q; omega
theorem zn_dec {n : Nat} (h : 0 < n) : nI n + Int32.ofInt (-1) = nI (n - 1) := by
  obtain ⟨k, rfl⟩ : ∃ k, n = k + 1 := ⟨n - 1, by omega⟩
  exact pk_m1 k
section ZA
variable {p : Program} {l : Launch} {e₀ : Env} {R : Room} {s : State} {m : MethodId} {args : Array Value} {below : List Frame} {meth : Method} {c : Code} {H : Heap} {locs : List Loc} {cells slots : Nat} {Q : State → Prop}
variable {cc : ByteArray} {pc : Nat} {ls : Array Slot} {rest : List Value} {D : va_G} {cl : List vw_C} {A : Nat → Prop} {a : Nat} {tys : List (ClassId × FieldType)} {ws : va_W} {H0 : Heap}
theorem z_iald (hexec : p.tables.exec = Jvm.exec) (hb : c.code = cc) (hK : va_K D cl tys s) (hP : va_P D cl ws H) (q0 t0 : Nat) {cA : ClassId} {n : Nat} {f : Nat → Int32} (ha : ws[q0]? = some (a, .inl (cA, n, .inl f))) (ht : tys[t0]? = some (cA, .int)) {i : Int32} {e : Nat} (hi : i = nI e) (he : e < n) (hn : n < 2147483648) (hdg : decode cc pc = .ok (.iaload, 1))
    (kk : W p l e₀ R s m args below meth c H locs cells slots Q (F0 m (pc + 1) ls (.int (f e) :: rest))) : W p l e₀ R s m args below meth c H locs cells slots Q (F0 m pc ls (.int i :: .ref a :: rest)) := by
  subst hi
  refine va_iald hexec hb hK hP q0 t0 ha ht (vp_in_nI he hn) hdg ?_
  rw [nI_clamp (by omega)]; exact kk
theorem z_zald (hexec : p.tables.exec = Jvm.exec) (hb : c.code = cc) (hK : va_K D cl tys s) (hP : va_P D cl ws H) (q0 t0 : Nat) {cA : ClassId} {n : Nat} {f : Nat → Int32} (ha : ws[q0]? = some (a, .inl (cA, n, .inl f))) (ht : tys[t0]? = some (cA, .boolean)) {i : Int32} {e : Nat} (hi : i = nI e) (he : e < n) (hn : n < 2147483648) (hdg : decode cc pc = .ok (.baload, 1))
    (kk : W p l e₀ R s m args below meth c H locs cells slots Q (F0 m (pc + 1) ls (.int (f e) :: rest))) : W p l e₀ R s m args below meth c H locs cells slots Q (F0 m pc ls (.int i :: .ref a :: rest)) := by
  subst hi
  refine va_zald hexec hb hK hP q0 t0 ha ht (vp_in_nI he hn) hdg ?_
  rw [nI_clamp (by omega)]; exact kk
theorem z_iast (hexec : p.tables.exec = Jvm.exec) (hb : c.code = cc) (hK : va_K D cl tys s) (hP : va_P D cl ws H) (hD : va_D A ws) (hS : va_S A H0 H locs) (q0 t0 : Nat) {cA : ClassId} {n : Nat} {f : Nat → Int32} (ha : ws[q0]? = some (a, .inl (cA, n, .inl f))) (ht : tys[t0]? = some (cA, .int)) {i : Int32} {x : Int32} {e : Nat} (hi : i = nI e) (he : e < n) (hn : n < 2147483648) (hdg : decode cc pc = .ok (.iastore, 1))
    (kk : ∀ (H1 : Heap) (locs1 : List Loc), va_P D cl (ws.set q0 (a, .inl (cA, n, .inl (upd f e x)))) H1 → va_D A (ws.set q0 (a, .inl (cA, n, .inl (upd f e x)))) → va_S A H0 H1 locs1 → W p l e₀ R s m args below meth c H1 locs1 cells slots Q (F0 m (pc + 1) ls rest)) : W p l e₀ R s m args below meth c H locs cells slots Q (F0 m pc ls (.int x :: .int i :: .ref a :: rest)) := by
  subst hi
  refine va_iast hexec hb hK hP hD hS q0 t0 ha ht (vp_in_nI he hn) hdg ?_
  rw [nI_clamp (by omega)]; exact kk
theorem z_zast (hexec : p.tables.exec = Jvm.exec) (hb : c.code = cc) (hK : va_K D cl tys s) (hP : va_P D cl ws H) (hD : va_D A ws) (hS : va_S A H0 H locs) (q0 t0 : Nat) {cA : ClassId} {n : Nat} {f : Nat → Int32} (ha : ws[q0]? = some (a, .inl (cA, n, .inl f))) (ht : tys[t0]? = some (cA, .boolean)) {i : Int32} {x : Int32} {e : Nat} (hi : i = nI e) (he : e < n) (hn : n < 2147483648) (hx1 : x &&& 1 = x) (hdg : decode cc pc = .ok (.bastore, 1))
    (kk : ∀ (H1 : Heap) (locs1 : List Loc), va_P D cl (ws.set q0 (a, .inl (cA, n, .inl (upd f e x)))) H1 → va_D A (ws.set q0 (a, .inl (cA, n, .inl (upd f e x)))) → va_S A H0 H1 locs1 → W p l e₀ R s m args below meth c H1 locs1 cells slots Q (F0 m (pc + 1) ls rest)) : W p l e₀ R s m args below meth c H locs cells slots Q (F0 m pc ls (.int x :: .int i :: .ref a :: rest)) := by
  subst hi
  refine va_zast hexec hb hK hP hD hS q0 t0 ha ht (vp_in_nI he hn) hdg ?_
  rw [nI_clamp (by omega), show vp_nar .boolean x = x from hx1]; exact kk
end ZA
