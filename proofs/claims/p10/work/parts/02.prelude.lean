section
/-! the words: those of the tables that a contract may carry; and the calls' own end -/
def ws0 : List Cond := lw_tbl.filter goodWord
theorem zz_m {w : Cond} (i : Nat) (h : lw_tbl[i]? = some w) (g : goodWord w = true) : w ∈ ws0 := List.mem_filter.mpr ⟨List.mem_of_getElem? h, g⟩
theorem zz_g0 {w : Cond} (h : w ∈ ws0) : w ∈ ws0 ∧ ((w.onTables && w.keeps) = true ∨ ∃ ty, w = .arrayClass ty) := ⟨h, good_of_word (List.mem_filter.mp h).2⟩
theorem zz_in (ws : List Cond) (ps : List Nat) (hp : ws = ps.filterMap (fun i => lw_tbl[i]?)) (hg : ws.all goodWord = true) : ∀ w ∈ ws, w ∈ ws0 := by
  intro w hw
  have h1 := List.all_eq_true.mp hg w hw
  rw [hp] at hw
  obtain ⟨i, -, hi⟩ := List.mem_filterMap.mp hw
  exact zz_m i hi h1
theorem zz_gl {ws : List Cond} (h : ∀ w ∈ ws, w ∈ ws0) : GoodIn ws0 ws := fun w hw => zz_g0 (h w hw)
theorem zz_gC {cd : Cond} (h5 : cd ∈ ws0) : GoodIn ws0 (cd :: ws0) := zz_gl (fun w hw => (List.mem_cons.mp hw).elim (fun e => by rw [e]; exact h5) id)
theorem zz_gV {own C : String} {idx : Nat} {y : MethodName} {cd : Cond} (h1 : Cond.methodLink own idx y ∈ ws0) (h2 : Cond.instanceMethod y ∈ ws0) (h3 : Cond.selects C y y ∈ ws0) (h4 : Cond.initialized C ∈ ws0) (h5 : cd ∈ ws0) : GoodIn ws0 (wsV own idx C y (cd :: ws0)) := by
  intro w hw
  unfold wsV at hw
  rcases List.mem_append.mp hw with h | h
  · simp only [List.mem_cons, List.not_mem_nil, or_false] at h
    rcases h with rfl | rfl | rfl | rfl
    · exact zz_g0 h1
    · exact zz_g0 h2
    · exact zz_g0 h3
    · exact zz_g0 h4
  · exact zz_gC h5 w h
theorem zz_gS {own : String} {idx : Nat} {y : MethodName} {cd : Cond} (h1 : Cond.methodLink own idx y ∈ ws0) (h2 : Cond.static y ∈ ws0) (h4 : Cond.initialized y.cls ∈ ws0) (h5 : cd ∈ ws0) : GoodIn ws0 (va_wsS own idx y (cd :: ws0)) := by
  intro w hw
  unfold va_wsS at hw
  rcases List.mem_append.mp hw with h | h
  · simp only [List.mem_cons, List.not_mem_nil, or_false] at h
    rcases h with rfl | rfl | rfl
    · exact zz_g0 h1
    · exact zz_g0 h2
    · exact zz_g0 h4
  · exact zz_gC h5 w h
/-- a method's end: its answer, its world behind it, and that nothing else has changed -/
def zQ (v : Option Value) (B : State → Prop) (A : Nat → Prop) : Array Value → State → Outcome → State → Prop := fun _ st oc t => (oc = .returned v ∧ B t) ∧ va_F A st t
section ZC
variable {p : Program} {l : Launch} {e : Env} {R : Room} {s : State} {m : MethodId} {args : Array Value} {below : List Frame} {meth : Method} {c : Code} {H : Heap} {locs : List Loc} {cells slots : Nat} {Q : State → Prop}
variable {pc : Nat} {ls : Array Slot} {rest st0 st1 : List Value} {a : Array Value} {A0 A1 : Nat → Prop} {H0 : Heap} {mc ms : Nat} {free : Addr → Prop}
theorem zcall {v : Option Value} {B : State → Prop} (hr : va_Run p l e R s m args below meth c H locs cells slots mc ms (F0 m pc ls st0) rest (zQ v B A1 a) free) (hS : va_S A0 H0 H locs) (hA : ∀ q, A1 q → A0 q) (hf : ∀ q, free q → A0 q) (hst : v.toList ++ rest = st1)
    (kk : ∀ (t : State) (H1 : Heap) (locs1 : List Loc), t.heap = H1 → B t → (∀ q : Nat, q < H.size → ¬ A1 q → H1[q]? = H[q]?) → va_S A0 H0 H1 locs1 → W p l e R s m args below meth c H1 locs1 (cells + mc) (slots + ms) Q (F0 m (pc + 3) ls st1)) : W p l e R s m args below meth c H locs cells slots Q (F0 m pc ls st0) := by
  intro T hT X
  obtain ⟨v1, st₀, t, T', L, h0, X', hL, e1, e2, ⟨⟨hv, hb⟩, hz, hk⟩, st⟩ := hr T hT X
  cases hv
  rw [h0] at hz hk
  subst hst
  obtain ⟨t2, a1, b1⟩ := kk t T'.heap (locs ++ L) e1.symm hb (fun q h1 h2 => by rw [e1]; exact hk q h1 h2)
    ⟨Nat.le_trans hS.1 (by rw [e1]; exact hz), fun q h1 h2 => by rw [e1, hk q (Nat.lt_of_lt_of_le h1 hS.1) (fun z => h2 (hA q z))]; exact hS.2.1 q h1 h2, fun q hq => by
      rcases List.mem_append.mp hq with h | h
      · exact hS.2.2 q h
      · exact hf _ (hL q h)⟩ T' rfl X'
  exact ⟨t2, st t2 a1, b1⟩
theorem zz_i {x v : Int32} (h : x = v) (k : W p l e R s m args below meth c H locs cells slots Q (F0 m pc ls (.int v :: rest))) : W p l e R s m args below meth c H locs cells slots Q (F0 m pc ls (.int x :: rest)) := by
  subst h; exact k
theorem zz_l {x v : Int64} (h : x = v) (k : W p l e R s m args below meth c H locs cells slots Q (F0 m pc ls (.long v :: rest))) : W p l e R s m args below meth c H locs cells slots Q (F0 m pc ls (.long x :: rest)) := by
  subst h; exact k
end ZC
/-- a method's start: the heap's size, its world, the tables; and what else it wants -/
def zPre (D : va_G) (cl : List vw_C) (tys : List (ClassId × FieldType)) (w : va_W) (sz : Nat) (X : State → Prop) (U : State) : Prop := U.heap.size = sz ∧ va_P D cl w U.heap ∧ va_K D cl tys U ∧ va_D (fun _ => True) w ∧ X U
theorem zBlind {D : va_G} {cl : List vw_C} {tys : List (ClassId × FieldType)} {w : va_W} {sz : Nat} {X : State → Prop} {av : List Value} (hX : ∀ (a : Array Value) (U : State) (g : JFrame) (mk : MethodId), X U → X (U.calling g mk a)) : FrameBlind (va_Pc av (zPre D cl tys w sz X)) := by
  intro a U g mk q
  obtain ⟨q0, q1, qP, qK, qD, qX⟩ := q
  exact ⟨q0, q1, qP, va_K.moved (u := U) (U := U.calling g mk a) (Vm.Alike.refl U.vm) qK, qD, hX a U g mk qX⟩
theorem zAt {s : State} {H : Heap} {D : va_G} {cl : List vw_C} {tys : List (ClassId × FieldType)} {w : va_W} {A : Nat → Prop} {X : State → Prop} {av : List Value} (hP : va_P D cl w H) (hD : va_D A w) (hK : va_K D cl tys s) (hX : ∀ U : State, U.heap = H → s.WarmedH U.vm → X U) : ∀ U : State, U.heap = H → s.WarmedH U.vm → va_Pc av (zPre D cl tys w H.size X) av.toArray U :=
  fun U hU hW => ⟨rfl, by rw [hU], by rw [hU]; exact hP, va_K.moved hW.alike hK, hD.weaken (fun _ _ _ _ => trivial), hX U hU hW⟩
/-- arrays whose class is known already -/
theorem zz_sameArr {s : State} {c1 c2 : ClassId} {ty : FieldType} (h1 : va_RA s c1 ty) (h2 : va_RA s c2 ty) : c1 = c2 := by
  cases ty with
  | object C =>
    obtain ⟨-, -, -, -, -, h1⟩ := h1
    obtain ⟨-, -, -, -, -, h2⟩ := h2
    exact Option.some.inj (h1.symm.trans h2)
  | _ => exact Option.some.inj (h1.symm.trans h2)
section ZN
variable {p : Program} {l : Launch} {e : Env} {R : Room} {s : State} {m : MethodId} {args : Array Value} {below : List Frame} {meth : Method} {c : Code} {H : Heap} {locs : List Loc} {cells slots : Nat} {Q : State → Prop}
variable {cc : ByteArray} {pc : Nat} {ls : Array Slot} {rest : List Value} {D : va_G} {cl : List vw_C} {A : Nat → Prop} {tys : List (ClassId × FieldType)} {ws : va_W} {H0 : Heap}
theorem zz_newa (hexec : p.tables.exec = Jvm.exec) (hb : c.code = cc) {atype : ArrayType} (harr : (Cond.arrayClass (newarray.typeOf atype)).before args s = true) {ty : FieldType} (hty : newarray.typeOf atype = ty) (hK : va_K D cl tys s) (hP : va_P D cl ws H) (hD : va_D A ws) (hS : va_S A H0 H locs) (hA : ∀ q, H0.size ≤ q → A q)
    {n : Int32} {N' : Nat} {a0 : vp_A} {cA : ClassId} (t0 : Nat) (ht : tys[t0]? = some (cA, ty)) (ha : ∀ cA : ClassId, vp_cell cA a0 = arrV cA N' (fun _ => defaultValue ty)) (hn : ¬ n < 0) (hN : n.toNatClampNeg = N') (hbytes : N' * componentBytes ty ≤ 536870912) (hcells : cells + 1 ≤ R.cells) (hslots : slots + N' ≤ R.slots) (hdg : decode cc pc = .ok (.newarray atype, 2))
    (kk : ∀ (q : Nat) (H1 : Heap), va_P D cl (ws ++ [(q, .inl (cA, a0))]) H1 → va_D A (ws ++ [(q, .inl (cA, a0))]) → va_S A H0 H1 locs →
      W p l e R s m args below meth c H1 locs (cells + 1) (slots + N') Q (F0 m (pc + 2) ls (.ref q :: rest))) : W p l e R s m args below meth c H locs cells slots Q (F0 m pc ls (.int n :: rest)) := by
  refine va_newa hexec hb harr hty hK hP hD hS hA ha hn hN hbytes hcells hslots hdg (fun q cB H1 hK1 hP1 hD1 hS1 => ?_)
  have e1 : (tys ++ [(cB, ty)])[tys.length]? = some (cB, ty) := by rw [List.getElem?_append_right (Nat.le_refl _)]; simp
  have e2 : cB = cA := zz_sameArr (hK1.2 _ _ e1).2 (hK.2 t0 _ ht).2
  subst e2
  exact kk q H1 hP1 hD1 hS1
end ZN
/-- numbers between two bounds, as the class and the reference ask it -/
def zw (v a b : Int32) : Int32 := if v < a then 0 else if b < v then 0 else 1
end
section
/-! numbers: a truth as an int, whole numbers as ints, what a comparison says of whole numbers -/
noncomputable def pI (p : Prop) : Int32 := @ite Int32 p (Classical.propDecidable p) 1 0
theorem zp_t {p : Prop} (h : p) : pI p = 1 := by unfold pI; rw [if_pos h]
theorem zp_f {p : Prop} (h : ¬ p) : pI p = 0 := by unfold pI; rw [if_neg h]
theorem zp_0 {p : Prop} (h : pI p = 0) : ¬ p := fun q => by rw [zp_t q] at h; exact absurd h (by decide)
theorem zp_1 {p : Prop} (h : ¬ pI p = 0) : p := Classical.byContradiction fun q => h (zp_f q)
theorem zp_iff {p q : Prop} (h : p ↔ q) : pI p = pI q := by rw [propext h]
theorem zp_and (p : Prop) : pI p &&& 1 = pI p := by
  rcases Classical.em p with h | h
  · rw [zp_t h]; decide
  · rw [zp_f h]; decide
theorem zp_nar (p : Prop) : narrow .boolean (.int (pI p)) = .int (pI p) := by show Value.int (pI p &&& 1) = _; rw [zp_and]
theorem fb_bmod {z : Int} (h1 : -2147483648 ≤ z) (h2 : z < 2147483648) : z.bmod (2 ^ 32) = z := by
  rw [Int.bmod_eq_of_le (by omega) (by omega)]
theorem fb_addI {x y : Int32} (h1 : -2147483648 ≤ x.toInt + y.toInt) (h2 : x.toInt + y.toInt < 2147483648) : (x + y).toInt = x.toInt + y.toInt := by
  rw [Int32.toInt_add, fb_bmod h1 h2]
theorem fb_subI {x y : Int32} (h1 : -2147483648 ≤ x.toInt - y.toInt) (h2 : x.toInt - y.toInt < 2147483648) : (x - y).toInt = x.toInt - y.toInt := by
  rw [Int32.toInt_sub, fb_bmod h1 h2]
theorem fb_mulI {x y : Int32} (h1 : -2147483648 ≤ x.toInt * y.toInt) (h2 : x.toInt * y.toInt < 2147483648) : (x * y).toInt = x.toInt * y.toInt := by
  rw [Int32.toInt_mul, fb_bmod h1 h2]
theorem fb_bmodL {z : Int} (h1 : -9223372036854775808 ≤ z) (h2 : z < 9223372036854775808) : z.bmod (2 ^ 64) = z := by
  rw [Int.bmod_eq_of_le (by omega) (by omega)]
theorem fb_addL {x y : Int64} (h1 : -9223372036854775808 ≤ x.toInt + y.toInt) (h2 : x.toInt + y.toInt < 9223372036854775808) : (x + y).toInt = x.toInt + y.toInt := by
  rw [Int64.toInt_add, fb_bmodL h1 h2]
theorem fb_subL {x y : Int64} (h1 : -9223372036854775808 ≤ x.toInt - y.toInt) (h2 : x.toInt - y.toInt < 9223372036854775808) : (x - y).toInt = x.toInt - y.toInt := by
  rw [Int64.toInt_sub, fb_bmodL h1 h2]
theorem fb_mulL {x y : Int64} (h1 : -9223372036854775808 ≤ x.toInt * y.toInt) (h2 : x.toInt * y.toInt < 9223372036854775808) : (x * y).toInt = x.toInt * y.toInt := by
  rw [Int64.toInt_mul, fb_bmodL h1 h2]
def iI (z : Int) : Int32 := Int32.ofInt z
def jI (z : Int) : Int64 := Int64.ofInt z
theorem iI_toInt {z : Int} (h : -2147483648 ≤ z ∧ z < 2147483648) : (iI z).toInt = z := by
  unfold iI; rw [Int32.toInt_ofInt, fb_bmod h.1 h.2]
theorem jI_toInt {z : Int} (h : -9223372036854775808 ≤ z ∧ z < 9223372036854775808) : (jI z).toInt = z := by
  unfold jI; rw [Int64.toInt_ofInt, fb_bmodL h.1 h.2]
theorem iI_of {x : Int32} {z : Int} (h : x.toInt = z) : x = iI z := by rw [← h]; exact (Int32.ofInt_toInt x).symm
theorem jI_of {x : Int64} {z : Int} (h : x.toInt = z) : x = jI z := by rw [← h]; exact (Int64.ofInt_toInt x).symm
theorem zc_eq {x y : Int32} {a b : Int} (hx : x.toInt = a) (hy : y.toInt = b) (h : x = y) : a = b := by rw [← hx, ← hy, h]
theorem zc_ne {x y : Int32} {a b : Int} (hx : x.toInt = a) (hy : y.toInt = b) (h : ¬ x = y) : ¬ a = b := fun q => h (Int32.toInt_inj.mp (by rw [hx, hy, q]))
theorem zc_lt {x y : Int32} {a b : Int} (hx : x.toInt = a) (hy : y.toInt = b) (h : x < y) : a < b := by rw [← hx, ← hy]; exact Int32.lt_iff_toInt_lt.mp h
theorem zc_nlt {x y : Int32} {a b : Int} (hx : x.toInt = a) (hy : y.toInt = b) (h : ¬ x < y) : b ≤ a := Int.not_lt.mp fun q => h (Int32.lt_iff_toInt_lt.mpr (by rw [hx, hy]; exact q))
theorem zc_le {x y : Int32} {a b : Int} (hx : x.toInt = a) (hy : y.toInt = b) (h : x ≤ y) : a ≤ b := by rw [← hx, ← hy]; exact Int32.le_iff_toInt_le.mp h
theorem zc_nle {x y : Int32} {a b : Int} (hx : x.toInt = a) (hy : y.toInt = b) (h : ¬ x ≤ y) : b < a := Int.not_le.mp fun q => h (Int32.le_iff_toInt_le.mpr (by rw [hx, hy]; exact q))
theorem zl_eq {x y : Int64} {a b : Int} (hx : x.toInt = a) (hy : y.toInt = b) (h : lg_cmp x y = 0) : a = b := by rw [← hx, ← hy, (lg_cmp_eq x y).mp h]
theorem zl_ne {x y : Int64} {a b : Int} (hx : x.toInt = a) (hy : y.toInt = b) (h : ¬ lg_cmp x y = 0) : ¬ a = b := fun q => h ((lg_cmp_eq x y).mpr (Int64.toInt_inj.mp (by rw [hx, hy, q])))
theorem zl_lt {x y : Int64} {a b : Int} (hx : x.toInt = a) (hy : y.toInt = b) (h : lg_cmp x y < 0) : a < b := by rw [← hx, ← hy]; exact Int64.lt_iff_toInt_lt.mp ((lg_cmp_lt x y).mp h)
theorem zl_nlt {x y : Int64} {a b : Int} (hx : x.toInt = a) (hy : y.toInt = b) (h : ¬ lg_cmp x y < 0) : b ≤ a := Int.not_lt.mp fun q => h ((lg_cmp_lt x y).mpr (Int64.lt_iff_toInt_lt.mpr (by rw [hx, hy]; exact q)))
theorem zl_ge {x y : Int64} {a b : Int} (hx : x.toInt = a) (hy : y.toInt = b) (h : 0 ≤ lg_cmp x y) : b ≤ a := by rw [← hx, ← hy]; exact Int64.le_iff_toInt_le.mp ((lg_cmp_ge x y).mp h)
theorem zl_nge {x y : Int64} {a b : Int} (hx : x.toInt = a) (hy : y.toInt = b) (h : ¬ 0 ≤ lg_cmp x y) : a < b := Int.not_le.mp fun q => h ((lg_cmp_ge x y).mpr (Int64.le_iff_toInt_le.mpr (by rw [hx, hy]; exact q)))
theorem zl_gt {x y : Int64} {a b : Int} (hx : x.toInt = a) (hy : y.toInt = b) (h : 0 < lg_cmp x y) : b < a := by rw [← hx, ← hy]; exact Int64.lt_iff_toInt_lt.mp ((lg_cmp_gt x y).mp h)
theorem zl_ngt {x y : Int64} {a b : Int} (hx : x.toInt = a) (hy : y.toInt = b) (h : ¬ 0 < lg_cmp x y) : a ≤ b := Int.not_lt.mp fun q => h ((lg_cmp_gt x y).mpr (Int64.lt_iff_toInt_lt.mpr (by rw [hx, hy]; exact q)))
theorem zl_le {x y : Int64} {a b : Int} (hx : x.toInt = a) (hy : y.toInt = b) (h : lg_cmp x y ≤ 0) : a ≤ b := by rw [← hx, ← hy]; exact Int64.le_iff_toInt_le.mp ((lg_cmp_le x y).mp h)
theorem zl_nle {x y : Int64} {a b : Int} (hx : x.toInt = a) (hy : y.toInt = b) (h : ¬ lg_cmp x y ≤ 0) : b < a := Int.not_le.mp fun q => h ((lg_cmp_le x y).mpr (Int64.le_iff_toInt_le.mpr (by rw [hx, hy]; exact q)))
theorem zmax {x y v : Int32} {a b : Int} (hx : x.toInt = a) (hy : y.toInt = b) (h : v = if x < y then y else x) : v.toInt = max a b := by
  by_cases q : x < y
  · rw [h, if_pos q, hy]; have := zc_lt hx hy q; omega
  · rw [h, if_neg q, hx]; have := zc_nlt hx hy q; omega
theorem zmin {x y v : Int32} {a b : Int} (hx : x.toInt = a) (hy : y.toInt = b) (h : v = if y < x then y else x) : v.toInt = min a b := by
  by_cases q : y < x
  · rw [h, if_pos q, hy]; have := zc_lt hy hx q; omega
  · rw [h, if_neg q, hx]; have := zc_nlt hy hx q; omega
section ZA
variable {p : Program} {l : Launch} {e₀ : Env} {R : Room} {s : State} {m : MethodId} {args : Array Value} {below : List Frame} {meth : Method} {c : Code} {H : Heap} {locs : List Loc} {cells slots : Nat} {Q : State → Prop}
variable {cc : ByteArray} {pc : Nat} {ls : Array Slot} {rest : List Value} {D : va_G} {cl : List vw_C} {A : Nat → Prop} {a : Nat} {tys : List (ClassId × FieldType)} {ws : va_W} {H0 : Heap}
theorem z_iald (hexec : p.tables.exec = Jvm.exec) (hb : c.code = cc) (hK : va_K D cl tys s) (hP : va_P D cl ws H) (q0 t0 : Nat) {cA : ClassId} {n : Nat} {f : Nat → Int32} (ha : ws[q0]? = some (a, .inl (cA, n, .inl f))) (ht : tys[t0]? = some (cA, .int)) {i : Int32} {e : Nat} (hi : i = nI e) (he : e < n) (hn : n < 2147483648) (hdg : decode cc pc = .ok (.iaload, 1))
    (kk : W p l e₀ R s m args below meth c H locs cells slots Q (F0 m (pc + 1) ls (.int (f e) :: rest))) : W p l e₀ R s m args below meth c H locs cells slots Q (F0 m pc ls (.int i :: .ref a :: rest)) := by
  subst hi
  refine va_iald hexec hb hK hP q0 t0 ha ht (vp_in_nI he hn) hdg ?_
  rw [nI_clamp (by omega)]; exact kk
theorem z_zald (hexec : p.tables.exec = Jvm.exec) (hb : c.code = cc) (hK : va_K D cl tys s) (hP : va_P D cl ws H) (q0 t0 : Nat) {cA : ClassId} {n : Nat} {f : Nat → Int32} (ha : ws[q0]? = some (a, .inl (cA, n, .inl f))) (ht : tys[t0]? = some (cA, .boolean)) {i : Int32} {e : Nat} (hi : i = nI e) (he : e < n) (hn : n < 2147483648) (hdg : decode cc pc = .ok (.baload, 1))
    (kk : W p l e₀ R s m args below meth c H locs cells slots Q (F0 m (pc + 1) ls (.int (f e) :: rest))) : W p l e₀ R s m args below meth c H locs cells slots Q (F0 m pc ls (.int i :: .ref a :: rest)) := by
  subst hi
  refine va_zald hexec hb hK hP q0 t0 ha ht (vp_in_nI he hn) hdg ?_
  rw [nI_clamp (by omega)]; exact kk
theorem z_iast (hexec : p.tables.exec = Jvm.exec) (hb : c.code = cc) (hK : va_K D cl tys s) (hP : va_P D cl ws H) (hD : va_D A ws) (hS : va_S A H0 H locs) (q0 t0 : Nat) {cA : ClassId} {n : Nat} {f : Nat → Int32} (ha : ws[q0]? = some (a, .inl (cA, n, .inl f))) (ht : tys[t0]? = some (cA, .int)) {i : Int32} {x : Int32} {e : Nat} (hi : i = nI e) (he : e < n) (hn : n < 2147483648) (hdg : decode cc pc = .ok (.iastore, 1))
    (kk : ∀ (H1 : Heap) (locs1 : List Loc), va_P D cl (ws.set q0 (a, .inl (cA, n, .inl (upd f e x)))) H1 → va_D A (ws.set q0 (a, .inl (cA, n, .inl (upd f e x)))) → va_S A H0 H1 locs1 → W p l e₀ R s m args below meth c H1 locs1 cells slots Q (F0 m (pc + 1) ls rest)) : W p l e₀ R s m args below meth c H locs cells slots Q (F0 m pc ls (.int x :: .int i :: .ref a :: rest)) := by
  subst hi
  refine va_iast hexec hb hK hP hD hS q0 t0 ha ht (vp_in_nI he hn) hdg ?_
  rw [nI_clamp (by omega)]; exact kk
theorem z_zast (hexec : p.tables.exec = Jvm.exec) (hb : c.code = cc) (hK : va_K D cl tys s) (hP : va_P D cl ws H) (hD : va_D A ws) (hS : va_S A H0 H locs) (q0 t0 : Nat) {cA : ClassId} {n : Nat} {f : Nat → Int32} (ha : ws[q0]? = some (a, .inl (cA, n, .inl f))) (ht : tys[t0]? = some (cA, .boolean)) {i : Int32} {x : Int32} {e : Nat} (hi : i = nI e) (he : e < n) (hn : n < 2147483648) (hx1 : x &&& 1 = x) (hdg : decode cc pc = .ok (.bastore, 1))
    (kk : ∀ (H1 : Heap) (locs1 : List Loc), va_P D cl (ws.set q0 (a, .inl (cA, n, .inl (upd f e x)))) H1 → va_D A (ws.set q0 (a, .inl (cA, n, .inl (upd f e x)))) → va_S A H0 H1 locs1 → W p l e₀ R s m args below meth c H1 locs1 cells slots Q (F0 m (pc + 1) ls rest)) : W p l e₀ R s m args below meth c H locs cells slots Q (F0 m pc ls (.int x :: .int i :: .ref a :: rest)) := by
  subst hi
  refine va_zast hexec hb hK hP hD hS q0 t0 ha ht (vp_in_nI he hn) hdg ?_
  rw [nI_clamp (by omega), show vp_nar .boolean x = x from hx1]; exact kk
end ZA
end
section
/-! worlds told once: pick, join and put back in order in one row -/
theorem zz_fm9 : ∀ (l : va_W), (l.map some).filterMap id = l
  | [] => rfl
  | a :: l => by
    show a :: (l.map some).filterMap id = a :: l
    rw [zz_fm9 l]
theorem zz_fm8 (f : Nat → Option (Nat × va_E)) : ∀ is : List Nat, is.filterMap f = (is.map f).filterMap id
  | [] => rfl
  | i :: is => by
    show (i :: is).filterMap f = (f i :: is.map f).filterMap id
    rw [List.filterMap_cons, List.filterMap_cons, zz_fm8 f is]
    rfl
theorem zz_fm {ws wc : va_W} {is : List Nat} (h : is.map (fun i => ws[i]?) = wc.map some) : is.filterMap (fun i => ws[i]?) = wc := by
  rw [zz_fm8, h, zz_fm9]
theorem zc_sub {A0 : Nat → Prop} {D : va_G} {cl : List vw_C} {ws wc : va_W} {H0 H : Heap} {locs : List Loc} (hP : va_P D cl ws H) (hD : va_D A0 ws) (hS : va_S A0 H0 H locs) (hA : ∀ q, H0.size ≤ q → A0 q) (is : List Nat) (hn : va_nd is = true) (hs : is.map (fun i => ws[i]?) = wc.map some) : va_P D cl wc H ∧ va_D A0 wc ∧ ∀ q, va_A wc H.size q → A0 q :=
  ⟨hP.sub is (zz_fm hs), hD.sub is hn hs, va_free hD hS hA is hs⟩
theorem zc_part {A0 : Nat → Prop} {D : va_G} {cl : List vw_C} {X cx pl : va_W} {H0 H : Heap} {locs : List Loc} (hP : va_P D cl (X ++ pl) H) (hD : va_D A0 (X ++ pl)) (hS : va_S A0 H0 H locs) (hA : ∀ q, H0.size ≤ q → A0 q) (is : List Nat) (hn : va_nd is = true) (hs : is.map (fun i => X[i]?) = cx.map some) : va_P D cl (cx ++ pl) H ∧ va_D A0 (cx ++ pl) ∧ ∀ q, va_A (cx ++ pl) H.size q → A0 q :=
  ⟨hP.part is hs, hD.part is hn hs, va_freeP hD hS hA is hs⟩
theorem zq_sub {A0 : Nat → Prop} {D : va_G} {cl : List vw_C} {ws wc : va_W} {H : Heap} (hP : va_P D cl ws H) (hD : va_D A0 ws) (is : List Nat) (hn : va_nd is = true) (hs : is.map (fun i => ws[i]?) = wc.map some) : va_P D cl wc H ∧ va_D A0 wc :=
  ⟨hP.sub is (zz_fm hs), hD.sub is hn hs⟩
theorem zq_part {A0 : Nat → Prop} {D : va_G} {cl : List vw_C} {X cx pl : va_W} {H : Heap} (hP : va_P D cl (X ++ pl) H) (hD : va_D A0 (X ++ pl)) (is : List Nat) (hn : va_nd is = true) (hs : is.map (fun i => X[i]?) = cx.map some) : va_P D cl (cx ++ pl) H ∧ va_D A0 (cx ++ pl) :=
  ⟨hP.part is hs, hD.part is hn hs⟩
abbrev zPD (D : va_G) (cl : List vw_C) (A : Nat → Prop) (ws : va_W) (H : Heap) : Prop := va_P D cl ws H ∧ va_D A ws
theorem zz_fr {W2 : va_W} {n : Nat} (hW : W2.length = n) : ∀ is : List Nat, is.all (fun i => Nat.blt i n) = true → is.map (fun i => W2[i]?) = (is.filterMap (fun i => W2[i]?)).map some
  | [], _ => rfl
  | i :: is, h => by
    have h1 : (Nat.blt i n && is.all (fun i => Nat.blt i n)) = true := h
    rw [Bool.and_eq_true] at h1
    have hi : i < W2.length := by rw [hW]; exact Nat.blt_eq.mp h1.1
    have e : W2[i]? = some W2[i] := List.getElem?_eq_getElem hi
    rw [List.map_cons, List.filterMap_cons, e]
    show some W2[i] :: is.map (fun i => W2[i]?) = some W2[i] :: (is.filterMap (fun i => W2[i]?)).map some
    rw [zz_fr hW is h1.2]
theorem zj_od {W2 wr w1 : va_W} {isR isO od : List Nat} {n : Nat} (hW : W2.length = n) (hr : isR.map (fun i => W2[i]?) = wr.map some) (hb : isO.map (fun i => W2[i]?) = w1.map some) (hod : od.map (fun i => (isR ++ isO)[i]?) = (List.range n).map some) : od.map (fun i => (wr ++ w1)[i]?) = W2.map some := by
  have e : (isR ++ isO).map (fun i => W2[i]?) = (wr ++ w1).map some := by rw [List.map_append, List.map_append, hr, hb]
  have e1 : ∀ i k : Nat, (isR ++ isO)[i]? = some k → (wr ++ w1)[i]? = W2[k]? := by
    intro i k h
    have h2 := congrArg (fun l => l[i]?) e
    simp only [List.getElem?_map, h, Option.map_some] at h2
    cases h3 : (wr ++ w1)[i]? with
    | none => rw [h3] at h2; cases h2
    | some q => rw [h3] at h2; exact (Option.some.inj h2).symm
  refine List.ext_getElem? (fun k => ?_)
  have h2 := congrArg (fun l => l[k]?) hod
  simp only [List.getElem?_map] at h2 ⊢
  rcases Nat.lt_or_ge k n with hk | hk
  · rw [List.getElem?_range hk] at h2
    cases h3 : od[k]? with
    | none => rw [h3] at h2; cases h2
    | some i =>
      rw [h3] at h2
      have h4 : (isR ++ isO)[i]? = some k := Option.some.inj h2
      have h5 : W2[k]? = some W2[k] := List.getElem?_eq_getElem (by omega)
      show some ((wr ++ w1)[i]?) = Option.map some (W2[k]?)
      rw [e1 i k h4, h5]
      rfl
  · have h6 : (List.range n)[k]? = none := List.getElem?_eq_none (by rw [List.length_range]; exact hk)
    have h7 : W2[k]? = none := List.getElem?_eq_none (by omega)
    rw [h6] at h2
    rw [h7]
    cases h3 : od[k]? with
    | none => rfl
    | some i => rw [h3] at h2; cases h2
/-- picked cells; two names for one thing, so that Lean never holds two worlds against each other as wholes -/
def zg1 : va_W → Nat → Option (Nat × va_E)
  | [], _ => none
  | a :: _, 0 => some a
  | _ :: l, n + 1 => zg1 l n
def zg2 : va_W → Nat → Option (Nat × va_E)
  | [], _ => none
  | a :: _, 0 => some a
  | _ :: l, n + 1 => zg2 l n
def zp1 (X : va_W) : List Nat → List (Option (Nat × va_E))
  | [] => []
  | i :: is => zg1 X i :: zp1 X is
def zp2 (X : va_W) : List Nat → List (Option (Nat × va_E))
  | [] => []
  | i :: is => zg2 X i :: zp2 X is
theorem zg1_e : ∀ (l : va_W) (n : Nat), zg1 l n = l[n]?
  | [], _ => rfl
  | _ :: _, 0 => rfl
  | _ :: l, n + 1 => zg1_e l n
theorem zg2_e : ∀ (l : va_W) (n : Nat), zg2 l n = l[n]?
  | [], _ => rfl
  | _ :: _, 0 => rfl
  | _ :: l, n + 1 => zg2_e l n
theorem zp1_e (X : va_W) : ∀ is : List Nat, zp1 X is = is.map (fun i => X[i]?)
  | [] => rfl
  | i :: is => by
    show zg1 X i :: zp1 X is = X[i]? :: is.map (fun i => X[i]?)
    rw [zg1_e, zp1_e X is]
theorem zp2_e (X : va_W) : ∀ is : List Nat, zp2 X is = is.map (fun i => X[i]?)
  | [] => rfl
  | i :: is => by
    show zg2 X i :: zp2 X is = X[i]? :: is.map (fun i => X[i]?)
    rw [zg2_e, zp2_e X is]
theorem zk_d {isR isC : List Nat} (h : isR.all (fun i => !isC.contains i) = true) : ∀ i ∈ isR, i ∉ isC := fun i hi hc => by
  have g := List.all_eq_true.mp h i hi
  simp [hc] at g
section
variable {A0 : Nat → Prop} {D : va_G} {cl : List vw_C} {X cx w1 W2 pl pl1 : va_W} {H H1 : Heap}
theorem zk (hP : va_P D cl X H) (hD : va_D A0 X) (isC isR isQ isO od : List Nat) (n : Nat) (hC : isC.map (fun i => X[i]?) = cx.map some) (ha : zp1 X isR = zp2 W2 isQ) (hb : isO.map (fun i => W2[i]?) = w1.map some) (hW : W2.length = n) (hq : isQ.all (fun i => Nat.blt i n) = true) (hn : va_nd isR = true) (hdis : isR.all (fun i => !isC.contains i) = true) (hod : od.map (fun i => (isQ ++ isO)[i]?) = (List.range n).map some) (hno : va_nd od = true)
    (hk : ∀ q : Nat, q < H.size → ¬ va_A cx H.size q → H1[q]? = H[q]?) (hF : ∀ q, va_A cx H.size q → A0 q) (hP1 : va_P D cl w1 H1) (hD1 : va_D (va_A cx H.size) w1) : va_P D cl W2 H1 ∧ va_D A0 W2 := by
  have hr := zz_fr hW isQ hq
  rw [zp1_e, zp2_e] at ha
  have hd2 : ∀ i ∈ isR, i ∉ isC := zk_d hdis
  obtain ⟨a, b⟩ := va_join hP hD isC isR hC (ha.trans hr) hn hd2 hk hF hP1 hD1
  exact zq_sub a b od hno (zj_od hW hr hb hod)
end
end
section
/-! worlds told once, by masks: every look goes once through a world, and what is only of numbers is left to the kernel -/
def zix : Nat → List Bool → List Nat
  | _, [] => []
  | k, true :: m => k :: zix (k + 1) m
  | k, false :: m => zix (k + 1) m
noncomputable def zm1 (X : va_W) (m : List Bool) : va_W := List.rec (motive := fun _ => va_W → va_W) (fun _ => []) (fun b _ ih X => List.rec (motive := fun _ => va_W) [] (fun a l _ => Bool.rec (motive := fun _ => va_W) (ih l) (a :: ih l) b) X) m X
noncomputable def zm2 (X : va_W) (m : List Bool) : va_W := List.rec (motive := fun _ => va_W → va_W) (fun _ => []) (fun b _ ih X => List.rec (motive := fun _ => va_W) [] (fun a l _ => Bool.rec (motive := fun _ => va_W) (ih l) (a :: ih l) b) X) m X
/-- the mask is no longer than the world -/
noncomputable def zok (X : va_W) (m : List Bool) : Bool := List.rec (motive := fun _ => va_W → Bool) (fun _ => true) (fun _ _ ih X => List.rec (motive := fun _ => Bool) false (fun _ l _ => ih l) X) m X
/-- the mask is just as long as the world -/
noncomputable def zoe (X : va_W) (m : List Bool) : Bool := List.rec (motive := fun _ => va_W → Bool) (fun X => List.rec (motive := fun _ => Bool) true (fun _ _ _ => false) X) (fun _ _ ih X => List.rec (motive := fun _ => Bool) false (fun _ l _ => ih l) X) m X
noncomputable def zS (X : va_W) : List (Option (Nat × va_E)) := List.rec (motive := fun _ => List (Option (Nat × va_E))) [] (fun a _ ih => some a :: ih) X
noncomputable def zg3 (X : va_W) (i : Nat) : Option (Nat × va_E) := Nat.rec (motive := fun _ => va_W → Option (Nat × va_E)) (fun X => List.rec (motive := fun _ => Option (Nat × va_E)) none (fun a _ _ => some a) X) (fun _ ih X => List.rec (motive := fun _ => Option (Nat × va_E)) none (fun _ l _ => ih l) X) i X
noncomputable def zp3 (X : va_W) (is : List Nat) : List (Option (Nat × va_E)) := List.rec (motive := fun _ => List (Option (Nat × va_E))) [] (fun i _ ih => zg3 X i :: ih) is
noncomputable def zp4 (X : va_W) (is : List Nat) : List (Option (Nat × va_E)) := List.rec (motive := fun _ => List (Option (Nat × va_E))) [] (fun i _ ih => zg3 X i :: ih) is
theorem zg3_e : ∀ (l : va_W) (n : Nat), zg3 l n = l[n]?
  | [], 0 => rfl
  | [], _ + 1 => rfl
  | _ :: _, 0 => rfl
  | _ :: l, n + 1 => zg3_e l n
theorem zp3_e (X : va_W) : ∀ is : List Nat, zp3 X is = is.map (fun i => X[i]?)
  | [] => rfl
  | i :: is => by
    show zg3 X i :: zp3 X is = X[i]? :: is.map (fun i => X[i]?)
    rw [zg3_e, zp3_e X is]
theorem zp4_e (X : va_W) : ∀ is : List Nat, zp4 X is = is.map (fun i => X[i]?)
  | [] => rfl
  | i :: is => by
    show zg3 X i :: zp4 X is = X[i]? :: is.map (fun i => X[i]?)
    rw [zg3_e, zp4_e X is]
theorem zS_e : ∀ l : va_W, zS l = l.map some
  | [] => rfl
  | a :: l => by
    show some a :: zS l = some a :: l.map some
    rw [zS_e l]
theorem zm12 : ∀ (l : va_W) (m : List Bool), zm1 l m = zm2 l m
  | [], [] => rfl
  | [], _ :: _ => rfl
  | a :: l, [] => rfl
  | a :: l, true :: m => by
    show a :: zm1 l m = a :: zm2 l m
    rw [zm12 l m]
  | a :: l, false :: m => zm12 l m
theorem zoe_ok : ∀ (l : va_W) (m : List Bool), zoe l m = true → zok l m = true ∧ l.length = m.length
  | [], [], _ => ⟨rfl, rfl⟩
  | [], _ :: _, h => by cases h
  | _ :: _, [], h => by cases h
  | a :: l, b :: m, h => ⟨(zoe_ok l m h).1, congrArg (· + 1) (zoe_ok l m h).2⟩
theorem zm_e : ∀ (m : List Bool) (X Y : va_W), zok X m = true → (zix Y.length m).map (fun i => (Y ++ X)[i]?) = (zm1 X m).map some
  | [], _, _, _ => rfl
  | b :: m, [], Y, h => by cases h
  | true :: m, a :: l, Y, h => by
    have ih := zm_e m l (Y ++ [a]) h
    rw [List.length_append, List.append_assoc] at ih
    show (Y ++ a :: l)[Y.length]? :: (zix (Y.length + 1) m).map (fun i => (Y ++ a :: l)[i]?) = some a :: (zm1 l m).map some
    rw [← ih, List.getElem?_append_right (Nat.le_refl _), Nat.sub_self]
    rfl
  | false :: m, a :: l, Y, h => by
    have ih := zm_e m l (Y ++ [a]) h
    rw [List.length_append, List.append_assoc] at ih
    exact ih
theorem zm_0 {m : List Bool} {X : va_W} (h : zok X m = true) : (zix 0 m).map (fun i => X[i]?) = (zm1 X m).map some := zm_e m X [] h
theorem zix_ge : ∀ (m : List Bool) (k i : Nat), i ∈ zix k m → k ≤ i
  | [], _, _, h => by cases h
  | true :: m, k, i, h => by
    rcases List.mem_cons.mp h with h | h
    · exact Nat.le_of_eq h.symm
    · exact Nat.le_of_succ_le (zix_ge m (k + 1) i h)
  | false :: m, k, i, h => Nat.le_of_succ_le (zix_ge m (k + 1) i h)
theorem zix_nd : ∀ (m : List Bool) (k : Nat), va_nd (zix k m) = true
  | [], _ => rfl
  | true :: m, k => by
    show (decide (k ∉ zix (k + 1) m) && va_nd (zix (k + 1) m)) = true
    rw [zix_nd m (k + 1), Bool.and_true]
    exact decide_eq_true (fun h => absurd (zix_ge m (k + 1) k h) (Nat.not_succ_le_self k))
  | false :: m, k => zix_nd m (k + 1)
def zmb : List Bool → Nat → Bool
  | [], _ => false
  | b :: _, 0 => b
  | _ :: m, n + 1 => zmb m n
theorem zix_b : ∀ (m : List Bool) (k i : Nat), i ∈ zix k m → zmb m (i - k) = true
  | [], _, _, h => by cases h
  | true :: m, k, i, h => by
    rcases List.mem_cons.mp h with h | h
    · rw [h, Nat.sub_self]; rfl
    · have g := zix_ge m (k + 1) i h
      have e : i - k = (i - (k + 1)) + 1 := by omega
      rw [e]
      exact zix_b m (k + 1) i h
  | false :: m, k, i, h => by
    have g := zix_ge m (k + 1) i h
    have e : i - k = (i - (k + 1)) + 1 := by omega
    rw [e]
    exact zix_b m (k + 1) i h
def zcov : Nat → List Bool → List Nat → Bool
  | _, [], _ => true
  | k, true :: m, is => zcov (k + 1) m is
  | k, false :: m, is => is.contains k && zcov (k + 1) m is
theorem zcov_m : ∀ (m : List Bool) (k : Nat) (is : List Nat), zcov k m is = true → ∀ j, k ≤ j → j < k + m.length → j ∈ zix k m ++ is
  | [], k, is, _, j, h1, h2 => absurd h2 (by rw [List.length_nil]; omega)
  | true :: m, k, is, h, j, h1, h2 => by
    rw [List.length_cons] at h2
    show j ∈ k :: (zix (k + 1) m ++ is)
    rcases Nat.eq_or_lt_of_le h1 with e | e
    · rw [e]; exact List.mem_cons_self
    · exact List.mem_cons_of_mem _ (zcov_m m (k + 1) is h j e (by omega))
  | false :: m, k, is, h, j, h1, h2 => by
    rw [List.length_cons] at h2
    obtain ⟨h3, h4⟩ := Bool.and_eq_true_iff.mp h
    show j ∈ zix (k + 1) m ++ is
    rcases Nat.eq_or_lt_of_le h1 with e | e
    · rw [← e]; exact List.mem_append_right _ (List.contains_iff_mem.mp h3)
    · exact zcov_m m (k + 1) is h4 j e (by omega)
theorem zod_x {L : List Nat} : ∀ (ks : List Nat), (∀ k ∈ ks, k ∈ L) → ∃ od : List Nat, od.map (fun i => L[i]?) = ks.map some
  | [], _ => ⟨[], rfl⟩
  | k :: ks, h => by
    obtain ⟨i, hi⟩ := List.getElem?_of_mem (h k List.mem_cons_self)
    obtain ⟨od, ho⟩ := zod_x ks (fun j hj => h j (List.mem_cons_of_mem _ hj))
    exact ⟨i :: od, by rw [List.map_cons, List.map_cons, ho, hi]⟩
theorem zod_n {f : Nat → Option Nat} : ∀ (od ks : List Nat), od.map f = ks.map some → va_nd ks = true → va_nd od = true
  | [], _, _, _ => rfl
  | i :: od, [], h, _ => by cases h
  | i :: od, k :: ks, h, hn => by
    rw [List.map_cons, List.map_cons] at h
    obtain ⟨h1, h2⟩ := List.cons.inj h
    have hn' : (decide (k ∉ ks) && va_nd ks) = true := hn
    obtain ⟨n1, n2⟩ := Bool.and_eq_true_iff.mp hn'
    have n3 : k ∉ ks := of_decide_eq_true n1
    show (decide (i ∉ od) && va_nd od) = true
    rw [zod_n od ks h2 n2, Bool.and_true]
    refine decide_eq_true (fun hi => n3 ?_)
    have g : f i ∈ od.map f := List.mem_map.mpr ⟨i, hi, rfl⟩
    rw [h2, h1] at g
    obtain ⟨j, hj, e⟩ := List.mem_map.mp g
    rw [← Option.some.inj e]
    exact hj
theorem zrg_n : ∀ (n k : Nat), va_nd (List.range' k n) = true
  | 0, _ => rfl
  | n + 1, k => by
    rw [List.range'_succ]
    show (decide (k ∉ List.range' (k + 1) n) && va_nd (List.range' (k + 1) n)) = true
    rw [zrg_n n (k + 1), Bool.and_true]
    exact decide_eq_true (fun h => absurd (List.mem_range'_1.mp h).1 (Nat.not_succ_le_self k))
def zkb (isC : List Nat) (mR mQ : List Bool) (isO : List Nat) : Bool := isC.all (fun i => !zmb mR i) && zcov 0 mQ isO
theorem zkb_e {isC : List Nat} {mR mQ : List Bool} {isO : List Nat} (h : zkb isC mR mQ isO = true) : (∀ i ∈ zix 0 mR, i ∉ isC) ∧ ∃ od : List Nat, od.map (fun i => (zix 0 mQ ++ isO)[i]?) = (List.range mQ.length).map some ∧ va_nd od = true := by
  obtain ⟨h0, h1⟩ := Bool.and_eq_true_iff.mp h
  refine ⟨fun i hi hc => ?_, ?_⟩
  · have g := List.all_eq_true.mp h0 i hc
    have g2 := zix_b mR 0 i hi
    rw [Nat.sub_zero] at g2
    rw [g2] at g
    cases g
  · obtain ⟨od, ho⟩ := zod_x (L := zix 0 mQ ++ isO) (List.range' 0 mQ.length) (fun k hk => zcov_m mQ 0 isO h1 k (Nat.zero_le _) (by have := (List.mem_range'_1.mp hk).2; omega))
    exact ⟨od, by rw [List.range_eq_range']; exact ho, zod_n _ _ ho (zrg_n _ _)⟩
section
variable {A0 : Nat → Prop} {D : va_G} {cl : List vw_C} {X cx w1 W2 ws wc pl pl1 : va_W} {H0 H H1 : Heap} {locs : List Loc}
theorem zm_r {mR mQ : List Bool} (hX : zok X mR = true) (hW : zoe W2 mQ = true) (ha : zm1 X mR = zm2 W2 mQ) : (zix 0 mR).map (fun i => X[i]?) = (zm2 W2 mQ).map some ∧ (zix 0 mQ).map (fun i => W2[i]?) = (zm2 W2 mQ).map some := by
  have e1 := zm_0 hX
  have e2 := zm_0 (zoe_ok _ _ hW).1
  rw [ha] at e1
  rw [zm12] at e2
  exact ⟨e1, e2⟩
theorem zn (hP : va_P D cl X H) (hD : va_D A0 X) (hk : ∀ q : Nat, q < H.size → ¬ va_A cx H.size q → H1[q]? = H[q]?) (hF : ∀ q, va_A cx H.size q → A0 q) (hP1 : va_P D cl w1 H1) (hD1 : va_D (va_A cx H.size) w1) (isC : List Nat) (mR mQ : List Bool) (isO : List Nat) (hn : zkb isC mR mQ isO = true) (hX : zok X mR = true) (hW : zoe W2 mQ = true) (hC : zp3 X isC = zS cx) (ha : zm1 X mR = zm2 W2 mQ) (hb : zp4 W2 isO = zS w1) : va_P D cl W2 H1 ∧ va_D A0 W2 := by
  rw [zp3_e, zS_e] at hC
  rw [zp4_e, zS_e] at hb
  obtain ⟨n2, od, n3, n4⟩ := zkb_e hn
  obtain ⟨e1, e2⟩ := zm_r hX hW ha
  obtain ⟨a, b⟩ := va_join hP hD isC _ hC e1 (zix_nd _ _) n2 hk hF hP1 hD1
  exact zq_sub a b od n4 (zj_od (zoe_ok _ _ hW).2 e2 hb n3)
theorem znQ (hP : va_P D cl (X ++ pl) H) (hD : va_D A0 (X ++ pl)) (hk : ∀ q : Nat, q < H.size → ¬ va_A cx H.size q → H1[q]? = H[q]?) (hF : ∀ q, va_A cx H.size q → A0 q) (hP1 : va_P D cl w1 H1) (hD1 : va_D (va_A cx H.size) w1) (isC : List Nat) (mR mQ : List Bool) (isO : List Nat) (hn : zkb isC mR mQ isO = true) (hX : zok X mR = true) (hW : zoe W2 mQ = true) (hC : zp3 X isC = zS cx) (ha : zm1 X mR = zm2 W2 mQ) (hb : zp4 W2 isO = zS w1) : va_P D cl (W2 ++ pl) H1 ∧ va_D A0 (W2 ++ pl) := by
  rw [zp3_e, zS_e] at hC
  rw [zp4_e, zS_e] at hb
  obtain ⟨n2, od, n3, n4⟩ := zkb_e hn
  obtain ⟨e1, e2⟩ := zm_r hX hW ha
  obtain ⟨a, b⟩ := va_joinQ hP hD isC _ hC e1 (zix_nd _ _) n2 hk hF hP1 hD1
  exact zq_part a b od n4 (zj_od (zoe_ok _ _ hW).2 e2 hb n3)
theorem znP (hP : va_P D cl (X ++ pl) H) (hD : va_D A0 (X ++ pl)) (hk : ∀ q : Nat, q < H.size → ¬ va_A (cx ++ pl) H.size q → H1[q]? = H[q]?) (hF : ∀ q, va_A (cx ++ pl) H.size q → A0 q) (hP1 : va_P D cl (w1 ++ pl1) H1) (hD1 : va_D (va_A (cx ++ pl) H.size) (w1 ++ pl1)) (isC : List Nat) (mR mQ : List Bool) (isO : List Nat) (hn : zkb isC mR mQ isO = true) (hX : zok X mR = true) (hW : zoe W2 mQ = true) (hC : zp3 X isC = zS cx) (ha : zm1 X mR = zm2 W2 mQ) (hb : zp4 W2 isO = zS w1) : va_P D cl (W2 ++ pl1) H1 ∧ va_D A0 (W2 ++ pl1) := by
  rw [zp3_e, zS_e] at hC
  rw [zp4_e, zS_e] at hb
  obtain ⟨n2, od, n3, n4⟩ := zkb_e hn
  obtain ⟨e1, e2⟩ := zm_r hX hW ha
  obtain ⟨a, b⟩ := va_joinP hP hD isC _ hC e1 (zix_nd _ _) n2 hk hF hP1 hD1
  exact zq_part a b od n4 (zj_od (zoe_ok _ _ hW).2 e2 hb n3)
theorem zo_sub (hP : va_P D cl ws H) (hD : va_D A0 ws) (hS : va_S A0 H0 H locs) (hA : ∀ q, H0.size ≤ q → A0 q) (is : List Nat) (hn : va_nd is = true) (hs : zp3 ws is = zS wc) : va_P D cl wc H ∧ va_D A0 wc ∧ ∀ q, va_A wc H.size q → A0 q :=
  zc_sub hP hD hS hA is hn ((zp3_e ws is).symm.trans (hs.trans (zS_e wc)))
theorem zo_part (hP : va_P D cl (X ++ pl) H) (hD : va_D A0 (X ++ pl)) (hS : va_S A0 H0 H locs) (hA : ∀ q, H0.size ≤ q → A0 q) (is : List Nat) (hn : va_nd is = true) (hs : zp3 X is = zS cx) : va_P D cl (cx ++ pl) H ∧ va_D A0 (cx ++ pl) ∧ ∀ q, va_A (cx ++ pl) H.size q → A0 q :=
  zc_part hP hD hS hA is hn ((zp3_e X is).symm.trans (hs.trans (zS_e cx)))
theorem zu_sub (hP : va_P D cl ws H) (hD : va_D A0 ws) (m : List Bool) (hX : zok ws m = true) (hs : zm1 ws m = wc) : va_P D cl wc H ∧ va_D A0 wc := by
  have e := zm_0 hX
  rw [hs] at e
  exact zq_sub hP hD _ (zix_nd _ _) e
theorem zu_part (hP : va_P D cl (X ++ pl) H) (hD : va_D A0 (X ++ pl)) (m : List Bool) (hX : zok X m = true) (hs : zm1 X m = cx) : va_P D cl (cx ++ pl) H ∧ va_D A0 (cx ++ pl) := by
  have e := zm_0 hX
  rw [hs] at e
  exact zq_part hP hD _ (zix_nd _ _) e
end
end
section
def RX0 : String := "ScaleShop$Box"
def TX0 : u_T := fun k => match k with
  | 0 => ("ScaleShop$Box", "left", "I", false)
  | 1 => ("ScaleShop$Box", "low", "I", false)
  | 2 => ("ScaleShop$Box", "right", "I", false)
  | _ => ("ScaleShop$Box", "high", "I", false)
def tyX0 : Nat → FieldType := fun k => match k with
  | 0 => .int
  | 1 => .int
  | 2 => .int
  | _ => .int
theorem nmX0 : ∀ a, a < 4 → ∀ b, b < 4 → a ≠ b → (TX0 a).2.1 ≠ (TX0 b).2.1 := by decide +kernel
theorem tyX0_ok : ∀ k, k < 4 → parseFieldDescriptor (TX0 k).2.2.1 = some (tyX0 k) := by decide +kernel
def RX2 : String := "ScaleShop$Feature"
def TX2 : u_T := fun k => match k with
  | 0 => ("ScaleShop$Feature", "rank", "I", true)
  | 1 => ("ScaleShop$Feature", "width", "I", true)
  | 2 => ("ScaleShop$Feature", "town", "I", true)
  | 3 => ("ScaleShop$Feature", "firstPart", "I", false)
  | 4 => ("ScaleShop$Feature", "secondPart", "I", false)
  | 5 => ("ScaleShop$Feature", "lost", "LScaleShop$Row;", true)
  | 6 => ("ScaleShop$Feature", "now", "LScaleShop$Look;", false)
  | _ => ("ScaleShop$Feature", "former", "LScaleShop$Look;", false)
def tyX2 : Nat → FieldType := fun k => match k with
  | 0 => .int
  | 1 => .int
  | 2 => .int
  | 3 => .int
  | 4 => .int
  | 5 => .object "ScaleShop$Row"
  | 6 => .object "ScaleShop$Look"
  | _ => .object "ScaleShop$Look"
theorem nmX2 : ∀ a, a < 8 → ∀ b, b < 8 → a ≠ b → (TX2 a).2.1 ≠ (TX2 b).2.1 := by decide +kernel
theorem tyX2_ok : ∀ k, k < 8 → parseFieldDescriptor (TX2 k).2.2.1 = some (tyX2 k) := by decide +kernel
def RX3 : String := "ScaleShop$Fraction"
def TX3 : u_T := fun k => match k with
  | 0 => ("ScaleShop$Fraction", "over", "J", false)
  | _ => ("ScaleShop$Fraction", "under", "J", false)
def tyX3 : Nat → FieldType := fun k => match k with
  | 0 => .long
  | _ => .long
theorem nmX3 : ∀ a, a < 2 → ∀ b, b < 2 → a ≠ b → (TX3 a).2.1 ≠ (TX3 b).2.1 := by decide +kernel
theorem tyX3_ok : ∀ k, k < 2 → parseFieldDescriptor (TX3 k).2.2.1 = some (tyX3 k) := by decide +kernel
def RX4 : String := "ScaleShop$Law"
def TX4 : u_T := fun k => match k with
  | 0 => ("ScaleShop$Law", "draft", "LScaleShop$Row;", true)
  | 1 => ("ScaleShop$Law", "triangle", "LScaleShop$Row;", true)
  | 2 => ("ScaleShop$Law", "way", "LScaleShop$Row;", true)
  | 3 => ("ScaleShop$Law", "reach", "LScaleShop$Box;", true)
  | 4 => ("ScaleShop$Law", "otherBox", "LScaleShop$Box;", true)
  | _ => ("ScaleShop$Law", "areas", "[I", true)
def tyX4 : Nat → FieldType := fun k => match k with
  | 0 => .object "ScaleShop$Row"
  | 1 => .object "ScaleShop$Row"
  | 2 => .object "ScaleShop$Row"
  | 3 => .object "ScaleShop$Box"
  | 4 => .object "ScaleShop$Box"
  | _ => .array .int
theorem nmX4 : ∀ a, a < 6 → ∀ b, b < 6 → a ≠ b → (TX4 a).2.1 ≠ (TX4 b).2.1 := by decide +kernel
theorem tyX4_ok : ∀ k, k < 6 → parseFieldDescriptor (TX4 k).2.2.1 = some (tyX4 k) := by decide +kernel
def RX5 : String := "ScaleShop$Look"
def TX5 : u_T := fun k => match k with
  | 0 => ("ScaleShop$Look", "kind", "I", false)
  | 1 => ("ScaleShop$Look", "state", "I", false)
  | 2 => ("ScaleShop$Look", "row", "LScaleShop$Row;", false)
  | 3 => ("ScaleShop$Look", "goneBy", "I", false)
  | 4 => ("ScaleShop$Look", "joinedTo", "I", false)
  | _ => ("ScaleShop$Look", "went", "I", false)
def tyX5 : Nat → FieldType := fun k => match k with
  | 0 => .int
  | 1 => .int
  | 2 => .object "ScaleShop$Row"
  | 3 => .int
  | 4 => .int
  | _ => .int
theorem nmX5 : ∀ a, a < 6 → ∀ b, b < 6 → a ≠ b → (TX5 a).2.1 ≠ (TX5 b).2.1 := by decide +kernel
theorem tyX5_ok : ∀ k, k < 6 → parseFieldDescriptor (TX5 k).2.2.1 = some (tyX5 k) := by decide +kernel
def RX6 : String := "ScaleShop$Roads"
def TX6 : u_T := fun k => match k with
  | 0 => ("ScaleShop$Roads", "roads", "[LScaleShop$Feature;", true)
  | 1 => ("ScaleShop$Roads", "weights", "[I", true)
  | 2 => ("ScaleShop$Roads", "endX", "[I", true)
  | 3 => ("ScaleShop$Roads", "endY", "[I", true)
  | 4 => ("ScaleShop$Roads", "groups", "[I", true)
  | _ => ("ScaleShop$Roads", "n", "I", false)
def tyX6 : Nat → FieldType := fun k => match k with
  | 0 => .array (.object "ScaleShop$Feature")
  | 1 => .array .int
  | 2 => .array .int
  | 3 => .array .int
  | 4 => .array .int
  | _ => .int
theorem nmX6 : ∀ a, a < 6 → ∀ b, b < 6 → a ≠ b → (TX6 a).2.1 ≠ (TX6 b).2.1 := by decide +kernel
theorem tyX6_ok : ∀ k, k < 6 → parseFieldDescriptor (TX6 k).2.2.1 = some (tyX6 k) := by decide +kernel
def RX7 : String := "ScaleShop$Row"
def TX7 : u_T := fun k => match k with
  | 0 => ("ScaleShop$Row", "x", "[I", true)
  | 1 => ("ScaleShop$Row", "y", "[I", true)
  | 2 => ("ScaleShop$Row", "n", "I", false)
  | _ => ("ScaleShop$Row", "ring", "Z", false)
def tyX7 : Nat → FieldType := fun k => match k with
  | 0 => .array .int
  | 1 => .array .int
  | 2 => .int
  | _ => .boolean
theorem nmX7 : ∀ a, a < 4 → ∀ b, b < 4 → a ≠ b → (TX7 a).2.1 ≠ (TX7 b).2.1 := by decide +kernel
theorem tyX7_ok : ∀ k, k < 4 → parseFieldDescriptor (TX7 k).2.2.1 = some (tyX7 k) := by decide +kernel
def RX8 : String := "ScaleShop$Sheet"
def TX8 : u_T := fun k => match k with
  | 0 => ("ScaleShop$Sheet", "features", "[LScaleShop$Feature;", true)
  | _ => ("ScaleShop$Sheet", "total", "I", false)
def tyX8 : Nat → FieldType := fun k => match k with
  | 0 => .array (.object "ScaleShop$Feature")
  | _ => .int
theorem nmX8 : ∀ a, a < 2 → ∀ b, b < 2 → a ≠ b → (TX8 a).2.1 ≠ (TX8 b).2.1 := by decide +kernel
theorem tyX8_ok : ∀ k, k < 2 → parseFieldDescriptor (TX8 k).2.2.1 = some (tyX8 k) := by decide +kernel
def RX10 : String := "ScaleShop"
def TX10 : u_T := fun k => match k with
  | 0 => ("ScaleShop", "sheet", "LScaleShop$Sheet;", true)
  | 1 => ("ScaleShop", "law", "LScaleShop$Law;", true)
  | 2 => ("ScaleShop", "roads", "LScaleShop$Roads;", true)
  | 3 => ("ScaleShop", "box", "LScaleShop$Box;", true)
  | 4 => ("ScaleShop", "otherBox", "LScaleShop$Box;", true)
  | 5 => ("ScaleShop", "distance", "LScaleShop$Fraction;", true)
  | 6 => ("ScaleShop", "farthest", "LScaleShop$Fraction;", true)
  | 7 => ("ScaleShop", "leaves", "[Z", true)
  | 8 => ("ScaleShop", "steps", "Ljava/util/ArrayList;", true)
  | 9 => ("ScaleShop", "doneSteps", "I", false)
  | 10 => ("ScaleShop", "sealedSteps", "I", false)
  | 11 => ("ScaleShop", "unlawful", "I", false)
  | _ => ("ScaleShop", "status", "I", false)
def tyX10 : Nat → FieldType := fun k => match k with
  | 0 => .object "ScaleShop$Sheet"
  | 1 => .object "ScaleShop$Law"
  | 2 => .object "ScaleShop$Roads"
  | 3 => .object "ScaleShop$Box"
  | 4 => .object "ScaleShop$Box"
  | 5 => .object "ScaleShop$Fraction"
  | 6 => .object "ScaleShop$Fraction"
  | 7 => .array .boolean
  | 8 => .object "java/util/ArrayList"
  | 9 => .int
  | 10 => .int
  | 11 => .int
  | _ => .int
theorem nmX10 : ∀ a, a < 13 → ∀ b, b < 13 → a ≠ b → (TX10 a).2.1 ≠ (TX10 b).2.1 := by decide +kernel
theorem tyX10_ok : ∀ k, k < 13 → parseFieldDescriptor (TX10 k).2.2.1 = some (tyX10 k) := by decide +kernel
def RX11 : String := "ScaleShopModel"
def TX11 : u_T := fun k => match k with
  | 0 => ("ScaleShopModel", "features", "I", false)
  | 1 => ("ScaleShopModel", "kind", "[I", true)
  | 2 => ("ScaleShopModel", "rank", "[I", true)
  | 3 => ("ScaleShopModel", "width", "[I", true)
  | 4 => ("ScaleShopModel", "town", "[I", true)
  | 5 => ("ScaleShopModel", "state", "[I", true)
  | 6 => ("ScaleShopModel", "torn", "[Z", true)
  | 7 => ("ScaleShopModel", "goneBy", "[I", true)
  | 8 => ("ScaleShopModel", "partA", "[I", true)
  | 9 => ("ScaleShopModel", "partB", "[I", true)
  | 10 => ("ScaleShopModel", "into", "[I", true)
  | 11 => ("ScaleShopModel", "many", "[I", true)
  | 12 => ("ScaleShopModel", "cx", "[I", true)
  | 13 => ("ScaleShopModel", "cy", "[I", true)
  | 14 => ("ScaleShopModel", "status", "I", false)
  | 15 => ("ScaleShopModel", "refused", "I", false)
  | 16 => ("ScaleShopModel", "which", "[I", true)
  | 17 => ("ScaleShopModel", "of", "[I", true)
  | 18 => ("ScaleShopModel", "went", "[I", true)
  | 19 => ("ScaleShopModel", "done", "I", false)
  | 20 => ("ScaleShopModel", "redoable", "I", false)
  | 21 => ("ScaleShopModel", "base", "I", false)
  | 22 => ("ScaleShopModel", "lostFeature", "[I", false)
  | 23 => ("ScaleShopModel", "lostX", "[I", false)
  | 24 => ("ScaleShopModel", "lostY", "[I", false)
  | 25 => ("ScaleShopModel", "lostStep", "[I", false)
  | 26 => ("ScaleShopModel", "lost", "I", false)
  | 27 => ("ScaleShopModel", "sheetAt", "[I", true)
  | 28 => ("ScaleShopModel", "sheets", "[I", false)
  | 29 => ("ScaleShopModel", "px", "[I", true)
  | 30 => ("ScaleShopModel", "py", "[I", true)
  | 31 => ("ScaleShopModel", "pn", "I", false)
  | 32 => ("ScaleShopModel", "s", "[I", true)
  | 33 => ("ScaleShopModel", "ox", "[I", true)
  | 34 => ("ScaleShopModel", "oy", "[I", true)
  | 35 => ("ScaleShopModel", "on", "I", false)
  | 36 => ("ScaleShopModel", "oldKind", "I", false)
  | 37 => ("ScaleShopModel", "met", "[Z", true)
  | 38 => ("ScaleShopModel", "within", "[Z", true)
  | 39 => ("ScaleShopModel", "inside", "[Z", true)
  | 40 => ("ScaleShopModel", "t", "[I", true)
  | 41 => ("ScaleShopModel", "writeAt", "I", false)
  | 42 => ("ScaleShopModel", "readAt", "I", false)
  | 43 => ("ScaleShopModel", "failed", "[Z", true)
  | 44 => ("ScaleShopModel", "lx", "I", false)
  | 45 => ("ScaleShopModel", "ly", "I", false)
  | 46 => ("ScaleShopModel", "hx", "I", false)
  | 47 => ("ScaleShopModel", "hy", "I", false)
  | 48 => ("ScaleShopModel", "up", "J", false)
  | 49 => ("ScaleShopModel", "down", "J", false)
  | 50 => ("ScaleShopModel", "marked", "[Z", true)
  | 51 => ("ScaleShopModel", "joinX", "[I", true)
  | 52 => ("ScaleShopModel", "joinY", "[I", true)
  | 53 => ("ScaleShopModel", "group", "[I", true)
  | _ => ("ScaleShopModel", "places", "I", false)
def tyX11 : Nat → FieldType := fun k => match k with
  | 0 => .int
  | 1 => .array .int
  | 2 => .array .int
  | 3 => .array .int
  | 4 => .array .int
  | 5 => .array .int
  | 6 => .array .boolean
  | 7 => .array .int
  | 8 => .array .int
  | 9 => .array .int
  | 10 => .array .int
  | 11 => .array .int
  | 12 => .array .int
  | 13 => .array .int
  | 14 => .int
  | 15 => .int
  | 16 => .array .int
  | 17 => .array .int
  | 18 => .array .int
  | 19 => .int
  | 20 => .int
  | 21 => .int
  | 22 => .array .int
  | 23 => .array .int
  | 24 => .array .int
  | 25 => .array .int
  | 26 => .int
  | 27 => .array .int
  | 28 => .array .int
  | 29 => .array .int
  | 30 => .array .int
  | 31 => .int
  | 32 => .array .int
  | 33 => .array .int
  | 34 => .array .int
  | 35 => .int
  | 36 => .int
  | 37 => .array .boolean
  | 38 => .array .boolean
  | 39 => .array .boolean
  | 40 => .array .int
  | 41 => .int
  | 42 => .int
  | 43 => .array .boolean
  | 44 => .int
  | 45 => .int
  | 46 => .int
  | 47 => .int
  | 48 => .long
  | 49 => .long
  | 50 => .array .boolean
  | 51 => .array .int
  | 52 => .array .int
  | 53 => .array .int
  | _ => .int
theorem nmX11 : ∀ a, a < 55 → ∀ b, b < 55 → a ≠ b → (TX11 a).2.1 ≠ (TX11 b).2.1 := by decide +kernel
theorem tyX11_ok : ∀ k, k < 55 → parseFieldDescriptor (TX11 k).2.2.1 = some (tyX11 k) := by decide +kernel
def RJx4a65c : String := "java/util/ArrayList"
def TJx4a65c : u_T := fun k => match k with
  | 0 => ("java/util/AbstractList", "modCount", "I", false)
  | 1 => ("java/util/ArrayList", "elementData", "[Ljava/lang/Object;", false)
  | _ => ("java/util/ArrayList", "size", "I", false)
def tyJx4a65c : Nat → FieldType := fun k => match k with
  | 0 => .int
  | 1 => .array (.object "java/lang/Object")
  | _ => .int
theorem nmJx4a65c : ∀ a, a < 3 → ∀ b, b < 3 → a ≠ b → (TJx4a65c a).2.1 ≠ (TJx4a65c b).2.1 := by decide +kernel
theorem tyJx4a65c_ok : ∀ k, k < 3 → parseFieldDescriptor (TJx4a65c k).2.2.1 = some (tyJx4a65c k) := by decide +kernel
def RX9 : String := "ScaleShop$Step"
def TX9 : u_T := fun k => match k with
  | 0 => ("ScaleShop$Step", "which", "I", true)
  | 1 => ("ScaleShop$Step", "first", "I", true)
  | 2 => ("ScaleShop$Step", "amount", "I", true)
  | 3 => ("ScaleShop$Step", "made", "LScaleShop$Feature;", true)
  | _ => ("ScaleShop$Step", "changes", "LScaleShop$Change;", false)
def tyX9 : Nat → FieldType := fun k => match k with
  | 0 => .int
  | 1 => .int
  | 2 => .int
  | 3 => .object "ScaleShop$Feature"
  | _ => .object "ScaleShop$Change"
theorem nmX9 : ∀ a, a < 5 → ∀ b, b < 5 → a ≠ b → (TX9 a).2.1 ≠ (TX9 b).2.1 := by decide +kernel
theorem tyX9_ok : ∀ k, k < 5 → parseFieldDescriptor (TX9 k).2.2.1 = some (tyX9 k) := by decide +kernel
def RX1 : String := "ScaleShop$Change"
def TX1 : u_T := fun k => match k with
  | 0 => ("ScaleShop$Change", "feature", "LScaleShop$Feature;", true)
  | 1 => ("ScaleShop$Change", "before", "LScaleShop$Look;", true)
  | 2 => ("ScaleShop$Change", "after", "LScaleShop$Look;", true)
  | _ => ("ScaleShop$Change", "next", "LScaleShop$Change;", true)
def tyX1 : Nat → FieldType := fun k => match k with
  | 0 => .object "ScaleShop$Feature"
  | 1 => .object "ScaleShop$Look"
  | 2 => .object "ScaleShop$Look"
  | _ => .object "ScaleShop$Change"
theorem nmX1 : ∀ a, a < 4 → ∀ b, b < 4 → a ≠ b → (TX1 a).2.1 ≠ (TX1 b).2.1 := by decide +kernel
theorem tyX1_ok : ∀ k, k < 4 → parseFieldDescriptor (TX1 k).2.2.1 = some (tyX1 k) := by decide +kernel
abbrev classes : List vw_C := [(RX0, TX0, 4), (RX2, TX2, 8), (RX3, TX3, 2), (RX4, TX4, 6), (RX5, TX5, 6), (RX6, TX6, 6), (RX7, TX7, 4), (RX8, TX8, 2), (RX10, TX10, 13), (RX11, TX11, 55), (RJx4a65c, TJx4a65c, 3), (RX9, TX9, 5), (RX1, TX1, 4)]
abbrev zTy (cI cZ cF : ClassId) : List (ClassId × FieldType) := [(cI, .int), (cZ, .boolean), (cF, .object "ScaleShop$Feature")]
abbrev mF (a : Nat → Nat) (I : Nat → Int32) (J : Nat → Int64) : List Value := [.int (I 0), .ref (a 1), .ref (a 2), .ref (a 3), .ref (a 4), .ref (a 5), .ref (a 6), .ref (a 7), .ref (a 8), .ref (a 9), .ref (a 10), .ref (a 11), .ref (a 12), .ref (a 13), .int (I 14), .int (I 15), .ref (a 16), .ref (a 17), .ref (a 18), .int (I 19), .int (I 20), .int (I 21), .ref (a 22), .ref (a 23), .ref (a 24), .ref (a 25), .int (I 26), .ref (a 27), .ref (a 28), .ref (a 29), .ref (a 30), .int (I 31), .ref (a 32), .ref (a 33), .ref (a 34), .int (I 35), .int (I 36), .ref (a 37), .ref (a 38), .ref (a 39), .ref (a 40), .int (I 41), .int (I 42), .ref (a 43), .int (I 44), .int (I 45), .int (I 46), .int (I 47), .long (J 48), .long (J 49), .ref (a 50), .ref (a 51), .ref (a 52), .ref (a 53), .int (I 54)]
theorem dfX0 : ∀ j, j < 4 → defaultValue (tyX0 j) = vp_V [.int 0, .int 0, .int 0, .int 0] j := by decide +kernel
theorem inX0 : ∀ w ∈ u_ws RX0 TX0 4, w ∈ ws0 := zz_in _ [210, 212, 214, 216] (by decide +kernel) (by decide +kernel)
theorem dfX2 : ∀ j, j < 8 → defaultValue (tyX2 j) = vp_V [.int 0, .int 0, .int 0, .int 0, .int 0, .null, .null, .null] j := by decide +kernel
theorem inX2 : ∀ w ∈ u_ws RX2 TX2 8, w ∈ ws0 := zz_in _ [438, 440, 442, 444, 446, 448, 450, 452] (by decide +kernel) (by decide +kernel)
theorem dfX3 : ∀ j, j < 2 → defaultValue (tyX3 j) = vp_V [.long 0, .long 0] j := by decide +kernel
theorem inX3 : ∀ w ∈ u_ws RX3 TX3 2, w ∈ ws0 := zz_in _ [277, 279] (by decide +kernel) (by decide +kernel)
theorem dfX4 : ∀ j, j < 6 → defaultValue (tyX4 j) = vp_V [.null, .null, .null, .null, .null, .null] j := by decide +kernel
theorem inX4 : ∀ w ∈ u_ws RX4 TX4 6, w ∈ ws0 := zz_in _ [226, 228, 230, 232, 234, 236] (by decide +kernel) (by decide +kernel)
theorem dfX5 : ∀ j, j < 6 → defaultValue (tyX5 j) = vp_V [.int 0, .int 0, .null, .int 0, .int 0, .int 0] j := by decide +kernel
theorem inX5 : ∀ w ∈ u_ws RX5 TX5 6, w ∈ ws0 := zz_in _ [402, 404, 406, 408, 410, 412] (by decide +kernel) (by decide +kernel)
theorem dfX6 : ∀ j, j < 6 → defaultValue (tyX6 j) = vp_V [.null, .null, .null, .null, .null, .int 0] j := by decide +kernel
theorem inX6 : ∀ w ∈ u_ws RX6 TX6 6, w ∈ ws0 := zz_in _ [252, 254, 256, 258, 260, 262] (by decide +kernel) (by decide +kernel)
theorem dfX7 : ∀ j, j < 4 → defaultValue (tyX7 j) = vp_V [.null, .null, .int 0, .int 0] j := by decide +kernel
theorem inX7 : ∀ w ∈ u_ws RX7 TX7 4, w ∈ ws0 := zz_in _ [186, 188, 190, 192] (by decide +kernel) (by decide +kernel)
theorem dfX8 : ∀ j, j < 2 → defaultValue (tyX8 j) = vp_V [.null, .int 0] j := by decide +kernel
theorem inX8 : ∀ w ∈ u_ws RX8 TX8 2, w ∈ ws0 := zz_in _ [141, 143] (by decide +kernel) (by decide +kernel)
theorem dfX10 : ∀ j, j < 13 → defaultValue (tyX10 j) = vp_V [.null, .null, .null, .null, .null, .null, .null, .null, .null, .int 0, .int 0, .int 0, .int 0] j := by decide +kernel
theorem inX10 : ∀ w ∈ u_ws RX10 TX10 13, w ∈ ws0 := zz_in _ [322, 324, 326, 328, 330, 332, 334, 336, 338, 340, 342, 344, 346] (by decide +kernel) (by decide +kernel)
theorem dfX11 : ∀ j, j < 55 → defaultValue (tyX11 j) = vp_V [.int 0, .null, .null, .null, .null, .null, .null, .null, .null, .null, .null, .null, .null, .null, .int 0, .int 0, .null, .null, .null, .int 0, .int 0, .int 0, .null, .null, .null, .null, .int 0, .null, .null, .null, .null, .int 0, .null, .null, .null, .int 0, .int 0, .null, .null, .null, .null, .int 0, .int 0, .null, .int 0, .int 0, .int 0, .int 0, .long 0, .long 0, .null, .null, .null, .null, .int 0] j := by decide +kernel
theorem inX11 : ∀ w ∈ u_ws RX11 TX11 55, w ∈ ws0 := zz_in _ [1214, 1216, 1218, 1220, 1222, 1224, 1226, 1228, 1230, 1232, 1234, 1236, 1238, 1240, 1242, 1244, 1246, 1248, 1250, 1252, 1254, 1256, 1258, 1260, 1262, 1264, 1266, 1268, 1270, 1272, 1274, 1276, 1278, 1280, 1282, 1284, 1286, 1288, 1290, 1292, 1294, 1296, 1298, 1300, 1302, 1304, 1306, 1308, 1310, 1312, 1314, 1316, 1318, 1320, 1322] (by decide +kernel) (by decide +kernel)
theorem dfJx4a65c : ∀ j, j < 3 → defaultValue (tyJx4a65c j) = vp_V [.int 0, .null, .int 0] j := by decide +kernel
theorem inJx4a65c : ∀ w ∈ u_ws RJx4a65c TJx4a65c 3, w ∈ ws0 := zz_in _ [305, 301, 303] (by decide +kernel) (by decide +kernel)
theorem dfX9 : ∀ j, j < 5 → defaultValue (tyX9 j) = vp_V [.int 0, .int 0, .int 0, .null, .null] j := by decide +kernel
theorem inX9 : ∀ w ∈ u_ws RX9 TX9 5, w ∈ ws0 := zz_in _ [773, 775, 777, 779, 781] (by decide +kernel) (by decide +kernel)
theorem dfX1 : ∀ j, j < 4 → defaultValue (tyX1 j) = vp_V [.null, .null, .null, .null] j := by decide +kernel
theorem inX1 : ∀ w ∈ u_ws RX1 TX1 4, w ∈ ws0 := zz_in _ [798, 800, 802, 804] (by decide +kernel) (by decide +kernel)
abbrev cX0_init : ByteArray := prog_2_method_1_code
def yX0_init : MethodName := ⟨RX0, "<init>", "()V"⟩
abbrev cX0_begin : ByteArray := prog_2_method_2_code
def yX0_begin : MethodName := ⟨RX0, "begin", "(II)V"⟩
abbrev cX0_take : ByteArray := prog_2_method_3_code
def yX0_take : MethodName := ⟨RX0, "take", "(II)V"⟩
abbrev cX0_cover : ByteArray := prog_2_method_4_code
def yX0_cover : MethodName := ⟨RX0, "cover", "(LScaleShop$Row;)V"⟩
abbrev cX0_stretch : ByteArray := prog_2_method_5_code
def yX0_stretch : MethodName := ⟨RX0, "stretch", "(LScaleShop$Row;)V"⟩
abbrev cX0_isApart : ByteArray := prog_2_method_6_code
def yX0_isApart : MethodName := ⟨RX0, "isApart", "(LScaleShop$Box;)Z"⟩
abbrev cX0_squareApart : ByteArray := prog_2_method_7_code
def yX0_squareApart : MethodName := ⟨RX0, "squareApart", "(LScaleShop$Box;)I"⟩
abbrev cX1_init : ByteArray := prog_3_method_1_code
def yX1_init : MethodName := ⟨RX1, "<init>", "(LScaleShop$Feature;LScaleShop$Change;)V"⟩
abbrev cX2_init : ByteArray := prog_4_method_1_code
def yX2_init : MethodName := ⟨RX2, "<init>", "(IIII)V"⟩
abbrev cX2_bends : ByteArray := prog_4_method_2_code
def yX2_bends : MethodName := ⟨RX2, "bends", "()Z"⟩
abbrev cX2_mayHaveCorner : ByteArray := prog_4_method_3_code
def yX2_mayHaveCorner : MethodName := ⟨RX2, "mayHaveCorner", "(I)Z"⟩
abbrev cX2_keepFormer : ByteArray := prog_4_method_4_code
def yX2_keepFormer : MethodName := ⟨RX2, "keepFormer", "()V"⟩
abbrev cX2_leave : ByteArray := prog_4_method_5_code
def yX2_leave : MethodName := ⟨RX2, "leave", "(I)V"⟩
abbrev cX2_reshape : ByteArray := prog_4_method_6_code
def yX2_reshape : MethodName := ⟨RX2, "reshape", "(LScaleShop$Row;)V"⟩
abbrev cX2_lose : ByteArray := prog_4_method_7_code
def yX2_lose : MethodName := ⟨RX2, "lose", "(I)V"⟩
abbrev cX3_init : ByteArray := prog_5_method_1_code
def yX3_init : MethodName := ⟨RX3, "<init>", "()V"⟩
abbrev cX3_clear : ByteArray := prog_5_method_2_code
def yX3_clear : MethodName := ⟨RX3, "clear", "()V"⟩
abbrev cX3_become : ByteArray := prog_5_method_3_code
def yX3_become : MethodName := ⟨RX3, "become", "(JJ)V"⟩
abbrev cX3_isBelow : ByteArray := prog_5_method_4_code
def yX3_isBelow : MethodName := ⟨RX3, "isBelow", "(LScaleShop$Fraction;)Z"⟩
abbrev cX3_isOver : ByteArray := prog_5_method_5_code
def yX3_isOver : MethodName := ⟨RX3, "isOver", "(I)Z"⟩
abbrev cX3_isHalfBelow : ByteArray := prog_5_method_6_code
def yX3_isHalfBelow : MethodName := ⟨RX3, "isHalfBelow", "(I)Z"⟩
abbrev cX3_offer : ByteArray := prog_5_method_7_code
def yX3_offer : MethodName := ⟨RX3, "offer", "(JJ)V"⟩
abbrev cX3_offerFrom : ByteArray := prog_5_method_8_code
def yX3_offerFrom : MethodName := ⟨RX3, "offerFrom", "(IILScaleShop$Row;)V"⟩
abbrev cX3_offerPart : ByteArray := prog_5_method_9_code
def yX3_offerPart : MethodName := ⟨RX3, "offerPart", "(IILScaleShop$Row;I)V"⟩
abbrev cX3_between : ByteArray := prog_5_method_10_code
def yX3_between : MethodName := ⟨RX3, "between", "(LScaleShop$Row;LScaleShop$Row;)V"⟩
abbrev cX3_reduced : ByteArray := prog_5_method_11_code
def yX3_reduced : MethodName := ⟨RX3, "reduced", "(I)J"⟩
abbrev cX4_init : ByteArray := prog_6_method_1_code
def yX4_init : MethodName := ⟨RX4, "<init>", "()V"⟩
abbrev cX4_cornerThatGoes : ByteArray := prog_6_method_2_code
def yX4_cornerThatGoes : MethodName := ⟨RX4, "cornerThatGoes", "(LScaleShop$Sheet;LScaleShop$Feature;I)I"⟩
abbrev cX4_leastArea : ByteArray := prog_6_method_3_code
def yX4_leastArea : MethodName := ⟨RX4, "leastArea", "(II)I"⟩
abbrev cX4_isBare : ByteArray := prog_6_method_4_code
def yX4_isBare : MethodName := ⟨RX4, "isBare", "(LScaleShop$Sheet;LScaleShop$Feature;II)Z"⟩
abbrev cX4_allows : ByteArray := prog_6_method_5_code
def yX4_allows : MethodName := ⟨RX4, "allows", "(LScaleShop$Sheet;LScaleShop$Feature;I)Z"⟩
abbrev cX4_measureReach : ByteArray := prog_6_method_6_code
def yX4_measureReach : MethodName := ⟨RX4, "measureReach", "(LScaleShop$Row;I)V"⟩
abbrev cX4_isAsBefore : ByteArray := prog_6_method_7_code
def yX4_isAsBefore : MethodName := ⟨RX4, "isAsBefore", "(LScaleShop$Row;LScaleShop$Row;I)Z"⟩
abbrev cX4_holdsAsBefore : ByteArray := prog_6_method_8_code
def yX4_holdsAsBefore : MethodName := ⟨RX4, "holdsAsBefore", "(LScaleShop$Row;LScaleShop$Row;)Z"⟩
abbrev cX4_isIn : ByteArray := prog_6_method_9_code
def yX4_isIn : MethodName := ⟨RX4, "isIn", "(LScaleShop$Row;LScaleShop$Row;)Z"⟩
abbrev cX4_isWayFree : ByteArray := prog_6_method_10_code
def yX4_isWayFree : MethodName := ⟨RX4, "isWayFree", "(LScaleShop$Row;LScaleShop$Row;)Z"⟩
abbrev cX4_leadsTo : ByteArray := prog_6_method_11_code
def yX4_leadsTo : MethodName := ⟨RX4, "leadsTo", "(II)Z"⟩
abbrev cX4_isSweptByCut : ByteArray := prog_6_method_12_code
def yX4_isSweptByCut : MethodName := ⟨RX4, "isSweptByCut", "(LScaleShop$Row;LScaleShop$Row;I)Z"⟩
abbrev cX4_isSweptByMove : ByteArray := prog_6_method_13_code
def yX4_isSweptByMove : MethodName := ⟨RX4, "isSweptByMove", "(LScaleShop$Row;LScaleShop$Row;)Z"⟩
abbrev cX4_setTriangle : ByteArray := prog_6_method_14_code
def yX4_setTriangle : MethodName := ⟨RX4, "setTriangle", "(LScaleShop$Row;ILScaleShop$Row;ILScaleShop$Row;I)V"⟩
abbrev cX4_holdsCorner : ByteArray := prog_6_method_15_code
def yX4_holdsCorner : MethodName := ⟨RX4, "holdsCorner", "(LScaleShop$Row;LScaleShop$Row;ILScaleShop$Row;I)Z"⟩
abbrev cX4_isFreeFor : ByteArray := prog_6_method_16_code
def yX4_isFreeFor : MethodName := ⟨RX4, "isFreeFor", "(LScaleShop$Sheet;LScaleShop$Feature;LScaleShop$Feature;)Z"⟩
abbrev cX5_init : ByteArray := prog_7_method_1_code
def yX5_init : MethodName := ⟨RX5, "<init>", "(I)V"⟩
abbrev cX5_copy : ByteArray := prog_7_method_2_code
def yX5_copy : MethodName := ⟨RX5, "copy", "()LScaleShop$Look;"⟩
abbrev cX6_init : ByteArray := prog_8_method_1_code
def yX6_init : MethodName := ⟨RX6, "<init>", "()V"⟩
abbrev cX6_gather : ByteArray := prog_8_method_2_code
def yX6_gather : MethodName := ⟨RX6, "gather", "(LScaleShop$Sheet;)V"⟩
abbrev cX6_insert : ByteArray := prog_8_method_3_code
def yX6_insert : MethodName := ⟨RX6, "insert", "(LScaleShop$Feature;I)V"⟩
abbrev cX6_setEnd : ByteArray := prog_8_method_4_code
def yX6_setEnd : MethodName := ⟨RX6, "setEnd", "(III)V"⟩
abbrev cX6_leaveOut : ByteArray := prog_8_method_5_code
def yX6_leaveOut : MethodName := ⟨RX6, "leaveOut", "(I)I"⟩
abbrev cX6_uniteGroups : ByteArray := prog_8_method_6_code
def yX6_uniteGroups : MethodName := ⟨RX6, "uniteGroups", "(II)V"⟩
abbrev cX7_init : ByteArray := prog_9_method_1_code
def yX7_init : MethodName := ⟨RX7, "<init>", "(IZ)V"⟩
abbrev cX7_put : ByteArray := prog_9_method_2_code
def yX7_put : MethodName := ⟨RX7, "put", "(II)V"⟩
abbrev cX7_clear : ByteArray := prog_9_method_3_code
def yX7_clear : MethodName := ⟨RX7, "clear", "(Z)V"⟩
abbrev cX7_copyFrom : ByteArray := prog_9_method_4_code
def yX7_copyFrom : MethodName := ⟨RX7, "copyFrom", "(LScaleShop$Row;)V"⟩
abbrev cX7_copy : ByteArray := prog_9_method_5_code
def yX7_copy : MethodName := ⟨RX7, "copy", "()LScaleShop$Row;"⟩
abbrev cX7_cut : ByteArray := prog_9_method_6_code
def yX7_cut : MethodName := ⟨RX7, "cut", "(I)V"⟩
abbrev cX7_edges : ByteArray := prog_9_method_7_code
def yX7_edges : MethodName := ⟨RX7, "edges", "()I"⟩
abbrev cX7_parts : ByteArray := prog_9_method_8_code
def yX7_parts : MethodName := ⟨RX7, "parts", "()I"⟩
abbrev cX7_next : ByteArray := prog_9_method_9_code
def yX7_next : MethodName := ⟨RX7, "next", "(I)I"⟩
abbrev cX7_previous : ByteArray := prog_9_method_10_code
def yX7_previous : MethodName := ⟨RX7, "previous", "(I)I"⟩
abbrev cX7_isEnd : ByteArray := prog_9_method_11_code
def yX7_isEnd : MethodName := ⟨RX7, "isEnd", "(I)Z"⟩
abbrev cX7_turn : ByteArray := prog_9_method_12_code
def yX7_turn : MethodName := ⟨RX7, "turn", "(III)I"⟩
abbrev cX7_isOn : ByteArray := prog_9_method_13_code
def yX7_isOn : MethodName := ⟨RX7, "isOn", "(III)Z"⟩
abbrev cX7_isOnSet : ByteArray := prog_9_method_14_code
def yX7_isOnSet : MethodName := ⟨RX7, "isOnSet", "(II)Z"⟩
abbrev cX7_isCorner : ByteArray := prog_9_method_15_code
def yX7_isCorner : MethodName := ⟨RX7, "isCorner", "(III)Z"⟩
abbrev cX7_isAlike : ByteArray := prog_9_method_16_code
def yX7_isAlike : MethodName := ⟨RX7, "isAlike", "(LScaleShop$Row;)Z"⟩
abbrev cX7_touches : ByteArray := prog_9_method_17_code
def yX7_touches : MethodName := ⟨RX7, "touches", "(LScaleShop$Row;)Z"⟩
abbrev cX7_partsMeet : ByteArray := prog_9_method_18_code
def yX7_partsMeet : MethodName := ⟨RX7, "partsMeet", "(ILScaleShop$Row;I)Z"⟩
abbrev cX7_where : ByteArray := prog_9_method_19_code
def yX7_where : MethodName := ⟨RX7, "where", "(II)I"⟩
abbrev cX7_isSound : ByteArray := prog_9_method_20_code
def yX7_isSound : MethodName := ⟨RX7, "isSound", "(I)Z"⟩
abbrev cX7_isEdgeFree : ByteArray := prog_9_method_21_code
def yX7_isEdgeFree : MethodName := ⟨RX7, "isEdgeFree", "(II)Z"⟩
abbrev cX7_foldsBack : ByteArray := prog_9_method_22_code
def yX7_foldsBack : MethodName := ⟨RX7, "foldsBack", "(I)Z"⟩
abbrev cX7_hasRightAngles : ByteArray := prog_9_method_23_code
def yX7_hasRightAngles : MethodName := ⟨RX7, "hasRightAngles", "()Z"⟩
abbrev cX7_arePlaces : ByteArray := prog_9_method_24_code
def yX7_arePlaces : MethodName := ⟨RX7, "arePlaces", "()Z"⟩
abbrev cX7_doubleTriangle : ByteArray := prog_9_method_25_code
def yX7_doubleTriangle : MethodName := ⟨RX7, "doubleTriangle", "(I)I"⟩
abbrev cX7_doubleArea : ByteArray := prog_9_method_26_code
def yX7_doubleArea : MethodName := ⟨RX7, "doubleArea", "()I"⟩
abbrev cX7_length : ByteArray := prog_9_method_27_code
def yX7_length : MethodName := ⟨RX7, "length", "()I"⟩
abbrev cX7_smoothFrom : ByteArray := prog_9_method_28_code
def yX7_smoothFrom : MethodName := ⟨RX7, "smoothFrom", "(LScaleShop$Row;)V"⟩
abbrev cX7_doubleFrom : ByteArray := prog_9_method_29_code
def yX7_doubleFrom : MethodName := ⟨RX7, "doubleFrom", "(LScaleShop$Row;)V"⟩
abbrev cX7_boxFrom : ByteArray := prog_9_method_30_code
def yX7_boxFrom : MethodName := ⟨RX7, "boxFrom", "(LScaleShop$Box;)V"⟩
abbrev cX7_carry : ByteArray := prog_9_method_31_code
def yX7_carry : MethodName := ⟨RX7, "carry", "(II)V"⟩
abbrev cX7_pull : ByteArray := prog_9_method_32_code
def yX7_pull : MethodName := ⟨RX7, "pull", "(IIII)V"⟩
abbrev cX8_init : ByteArray := prog_10_method_1_code
def yX8_init : MethodName := ⟨RX8, "<init>", "()V"⟩
abbrev cX8_isFull : ByteArray := prog_10_method_2_code
def yX8_isFull : MethodName := ⟨RX8, "isFull", "()Z"⟩
abbrev cX8_add : ByteArray := prog_10_method_3_code
def yX8_add : MethodName := ⟨RX8, "add", "(LScaleShop$Feature;)I"⟩
abbrev cX8_removeLast : ByteArray := prog_10_method_4_code
def yX8_removeLast : MethodName := ⟨RX8, "removeLast", "()V"⟩
abbrev cX8_find : ByteArray := prog_10_method_5_code
def yX8_find : MethodName := ⟨RX8, "find", "(I)LScaleShop$Feature;"⟩
abbrev cX8_rowThere : ByteArray := prog_10_method_6_code
def yX8_rowThere : MethodName := ⟨RX8, "rowThere", "(I)LScaleShop$Row;"⟩
abbrev cX8_houseThere : ByteArray := prog_10_method_7_code
def yX8_houseThere : MethodName := ⟨RX8, "houseThere", "(I)LScaleShop$Row;"⟩
abbrev cX8_inState : ByteArray := prog_10_method_8_code
def yX8_inState : MethodName := ⟨RX8, "inState", "(I)I"⟩
abbrev cX8_torn : ByteArray := prog_10_method_9_code
def yX8_torn : MethodName := ⟨RX8, "torn", "()I"⟩
abbrev cX8_cornersThere : ByteArray := prog_10_method_10_code
def yX8_cornersThere : MethodName := ⟨RX8, "cornersThere", "()I"⟩
abbrev cX9_init : ByteArray := prog_11_method_1_code
def yX9_init : MethodName := ⟨RX9, "<init>", "(IIILScaleShop$Feature;)V"⟩
abbrev cX9_takeBack : ByteArray := prog_11_method_2_code
def yX9_takeBack : MethodName := ⟨RX9, "takeBack", "()V"⟩
abbrev cX9_repeat : ByteArray := prog_11_method_3_code
def yX9_repeat : MethodName := ⟨RX9, "repeat", "()V"⟩
abbrev cX10_init : ByteArray := prog_1_method_1_code
def yX10_init : MethodName := ⟨RX10, "<init>", "()V"⟩
abbrev cX10_feature : ByteArray := prog_1_method_2_code
def yX10_feature : MethodName := ⟨RX10, "feature", "(IIII)I"⟩
abbrev cX10_corner : ByteArray := prog_1_method_3_code
def yX10_corner : MethodName := ⟨RX10, "corner", "(III)I"⟩
abbrev cX10_tear : ByteArray := prog_1_method_4_code
def yX10_tear : MethodName := ⟨RX10, "tear", "(I)Z"⟩
abbrev cX10_done : ByteArray := prog_1_method_5_code
def yX10_done : MethodName := ⟨RX10, "done", "(I)Z"⟩
abbrev cX10_plainer : ByteArray := prog_1_method_6_code
def yX10_plainer : MethodName := ⟨RX10, "plainer", "(II)I"⟩
abbrev cX10_smooth : ByteArray := prog_1_method_7_code
def yX10_smooth : MethodName := ⟨RX10, "smooth", "(I)Z"⟩
abbrev cX10_shift : ByteArray := prog_1_method_8_code
def yX10_shift : MethodName := ⟨RX10, "shift", "(IIIII)Z"⟩
abbrev cX10_grow : ByteArray := prog_1_method_9_code
def yX10_grow : MethodName := ⟨RX10, "grow", "(I)Z"⟩
abbrev cX10_square : ByteArray := prog_1_method_10_code
def yX10_square : MethodName := ⟨RX10, "square", "(II)Z"⟩
abbrev cX10_join : ByteArray := prog_1_method_11_code
def yX10_join : MethodName := ⟨RX10, "join", "(III)I"⟩
abbrev cX10_drop : ByteArray := prog_1_method_12_code
def yX10_drop : MethodName := ⟨RX10, "drop", "(I)Z"⟩
abbrev cX10_few : ByteArray := prog_1_method_13_code
def yX10_few : MethodName := ⟨RX10, "few", "(II)I"⟩
abbrev cX10_choose : ByteArray := prog_1_method_14_code
def yX10_choose : MethodName := ⟨RX10, "choose", "()I"⟩
abbrev cX10_run : ByteArray := prog_1_method_15_code
def yX10_run : MethodName := ⟨RX10, "run", "(I)I"⟩
abbrev cX10_undo : ByteArray := prog_1_method_16_code
def yX10_undo : MethodName := ⟨RX10, "undo", "()I"⟩
abbrev cX10_redo : ByteArray := prog_1_method_17_code
def yX10_redo : MethodName := ⟨RX10, "redo", "()I"⟩
abbrev cX10_meets : ByteArray := prog_1_method_18_code
def yX10_meets : MethodName := ⟨RX10, "meets", "(II)Z"⟩
abbrev cX10_inside : ByteArray := prog_1_method_19_code
def yX10_inside : MethodName := ⟨RX10, "inside", "(III)I"⟩
abbrev cX10_side : ByteArray := prog_1_method_20_code
def yX10_side : MethodName := ⟨RX10, "side", "(IIII)I"⟩
abbrev cX10_near : ByteArray := prog_1_method_21_code
def yX10_near : MethodName := ⟨RX10, "near", "(III)J"⟩
abbrev cX10_clashes : ByteArray := prog_1_method_22_code
def yX10_clashes : MethodName := ⟨RX10, "clashes", "(I)I"⟩
abbrev cX10_clash : ByteArray := prog_1_method_23_code
def yX10_clash : MethodName := ⟨RX10, "clash", "(III)I"⟩
abbrev cX10_far : ByteArray := prog_1_method_24_code
def yX10_far : MethodName := ⟨RX10, "far", "(II)J"⟩
abbrev cX10_size : ByteArray := prog_1_method_25_code
def yX10_size : MethodName := ⟨RX10, "size", "(I)J"⟩
abbrev cX10_at : ByteArray := prog_1_method_26_code
def yX10_at : MethodName := ⟨RX10, "at", "(III)I"⟩
abbrev cX10_told : ByteArray := prog_1_method_27_code
def yX10_told : MethodName := ⟨RX10, "told", "(II)I"⟩
abbrev cX10_step : ByteArray := prog_1_method_28_code
def yX10_step : MethodName := ⟨RX10, "step", "(II)I"⟩
abbrev cX10_count : ByteArray := prog_1_method_29_code
def yX10_count : MethodName := ⟨RX10, "count", "(I)I"⟩
abbrev cX10_status : ByteArray := prog_1_method_30_code
def yX10_status : MethodName := ⟨RX10, "status", "()I"⟩
abbrev cX10_isWithin : ByteArray := prog_1_method_31_code
def yX10_isWithin : MethodName := ⟨RX10, "isWithin", "(III)Z"⟩
abbrev cX10_isPlace : ByteArray := prog_1_method_32_code
def yX10_isPlace : MethodName := ⟨RX10, "isPlace", "(II)Z"⟩
abbrev cX10_mostCorners : ByteArray := prog_1_method_33_code
def yX10_mostCorners : MethodName := ⟨RX10, "mostCorners", "(I)I"⟩
abbrev cX10_fewestCorners : ByteArray := prog_1_method_34_code
def yX10_fewestCorners : MethodName := ⟨RX10, "fewestCorners", "(I)I"⟩
abbrev cX10_refuse : ByteArray := prog_1_method_35_code
def yX10_refuse : MethodName := ⟨RX10, "refuse", "(I)I"⟩
abbrev cX10_deny : ByteArray := prog_1_method_36_code
def yX10_deny : MethodName := ⟨RX10, "deny", "(I)Z"⟩
abbrev cX10_seal : ByteArray := prog_1_method_37_code
def yX10_seal : MethodName := ⟨RX10, "seal", "()Z"⟩
abbrev cX10_forgetUndone : ByteArray := prog_1_method_38_code
def yX10_forgetUndone : MethodName := ⟨RX10, "forgetUndone", "()V"⟩
abbrev cX10_book : ByteArray := prog_1_method_39_code
def yX10_book : MethodName := ⟨RX10, "book", "(IIILScaleShop$Feature;)Z"⟩
abbrev cX10_moveTo : ByteArray := prog_1_method_40_code
def yX10_moveTo : MethodName := ⟨RX10, "moveTo", "(LScaleShop$Feature;II)Z"⟩
abbrev cX10_thin : ByteArray := prog_1_method_41_code
def yX10_thin : MethodName := ⟨RX10, "thin", "(LScaleShop$Feature;I)I"⟩
abbrev cX10_unite : ByteArray := prog_1_method_42_code
def yX10_unite : MethodName := ⟨RX10, "unite", "(LScaleShop$Feature;LScaleShop$Feature;II)I"⟩
abbrev cX10_isSmallHouse : ByteArray := prog_1_method_43_code
def yX10_isSmallHouse : MethodName := ⟨RX10, "isSmallHouse", "(II)Z"⟩
abbrev cX10_rankInTown : ByteArray := prog_1_method_44_code
def yX10_rankInTown : MethodName := ⟨RX10, "rankInTown", "(I)I"⟩
abbrev cX10_nextClash : ByteArray := prog_1_method_45_code
def yX10_nextClash : MethodName := ⟨RX10, "nextClash", "(II)I"⟩
abbrev cX10_isClash : ByteArray := prog_1_method_46_code
def yX10_isClash : MethodName := ⟨RX10, "isClash", "(III)Z"⟩
abbrev cX11_init : ByteArray := prog_13_method_1_code
def yX11_init : MethodName := ⟨RX11, "<init>", "()V"⟩
abbrev cX11_refuse : ByteArray := prog_13_method_2_code
def yX11_refuse : MethodName := ⟨RX11, "refuse", "(I)I"⟩
abbrev cX11_no : ByteArray := prog_13_method_3_code
def yX11_no : MethodName := ⟨RX11, "no", "(I)Z"⟩
abbrev cX11_isFeature : ByteArray := prog_13_method_4_code
def yX11_isFeature : MethodName := ⟨RX11, "isFeature", "(I)Z"⟩
abbrev cX11_is : ByteArray := prog_13_method_5_code
def yX11_is : MethodName := ⟨RX11, "is", "(I)Z"⟩
abbrev cX11_isRing : ByteArray := prog_13_method_6_code
def yX11_isRing : MethodName := ⟨RX11, "isRing", "(I)Z"⟩
abbrev cX11_take : ByteArray := prog_13_method_7_code
def yX11_take : MethodName := ⟨RX11, "take", "(I)V"⟩
abbrev cX11_give : ByteArray := prog_13_method_8_code
def yX11_give : MethodName := ⟨RX11, "give", "(I)V"⟩
abbrev cX11_cross : ByteArray := prog_13_method_9_code
def yX11_cross : MethodName := ⟨RX11, "cross", "(JJJJJJ)J"⟩
abbrev cX11_signOf : ByteArray := prog_13_method_10_code
def yX11_signOf : MethodName := ⟨RX11, "signOf", "(J)I"⟩
abbrev cX11_isOn : ByteArray := prog_13_method_11_code
def yX11_isOn : MethodName := ⟨RX11, "isOn", "(IIIIII)Z"⟩
abbrev cX11_touch : ByteArray := prog_13_method_12_code
def yX11_touch : MethodName := ⟨RX11, "touch", "([I)Z"⟩
abbrev cX11_isWithin : ByteArray := prog_13_method_13_code
def yX11_isWithin : MethodName := ⟨RX11, "isWithin", "([III)Z"⟩
abbrev cX11_edgesOf : ByteArray := prog_13_method_14_code
def yX11_edgesOf : MethodName := ⟨RX11, "edgesOf", "(I)I"⟩
abbrev cX11_edge : ByteArray := prog_13_method_15_code
def yX11_edge : MethodName := ⟨RX11, "edge", "(III)V"⟩
abbrev cX11_isMet : ByteArray := prog_13_method_16_code
def yX11_isMet : MethodName := ⟨RX11, "isMet", "(II)Z"⟩
abbrev cX11_isOnSet : ByteArray := prog_13_method_17_code
def yX11_isOnSet : MethodName := ⟨RX11, "isOnSet", "(III)Z"⟩
abbrev cX11_isInside : ByteArray := prog_13_method_18_code
def yX11_isInside : MethodName := ⟨RX11, "isInside", "(III)Z"⟩
abbrev cX11_area : ByteArray := prog_13_method_19_code
def yX11_area : MethodName := ⟨RX11, "area", "(I)J"⟩
abbrev cX11_lengthOf : ByteArray := prog_13_method_20_code
def yX11_lengthOf : MethodName := ⟨RX11, "lengthOf", "(I)J"⟩
abbrev cX11_isSimple : ByteArray := prog_13_method_21_code
def yX11_isSimple : MethodName := ⟨RX11, "isSimple", "(I)Z"⟩
abbrev cX11_meetsEdge : ByteArray := prog_13_method_22_code
def yX11_meetsEdge : MethodName := ⟨RX11, "meetsEdge", "(III)Z"⟩
abbrev cX11_folds : ByteArray := prog_13_method_23_code
def yX11_folds : MethodName := ⟨RX11, "folds", "(III)Z"⟩
abbrev cX11_isSquare : ByteArray := prog_13_method_24_code
def yX11_isSquare : MethodName := ⟨RX11, "isSquare", "(I)Z"⟩
abbrev cX11_remember : ByteArray := prog_13_method_25_code
def yX11_remember : MethodName := ⟨RX11, "remember", "(I)V"⟩
abbrev cX11_forgetNew : ByteArray := prog_13_method_26_code
def yX11_forgetNew : MethodName := ⟨RX11, "forgetNew", "(I)V"⟩
abbrev cX11_arePlaces : ByteArray := prog_13_method_27_code
def yX11_arePlaces : MethodName := ⟨RX11, "arePlaces", "(I)Z"⟩
abbrev cX11_isLawful : ByteArray := prog_13_method_28_code
def yX11_isLawful : MethodName := ⟨RX11, "isLawful", "(III)Z"⟩
abbrev cX11_isLawfulTo : ByteArray := prog_13_method_29_code
def yX11_isLawfulTo : MethodName := ⟨RX11, "isLawfulTo", "(IIII)Z"⟩
abbrev cX11_isThree : ByteArray := prog_13_method_30_code
def yX11_isThree : MethodName := ⟨RX11, "isThree", "(IIIIIII)Z"⟩
abbrev cX11_isSweptBy : ByteArray := prog_13_method_31_code
def yX11_isSweptBy : MethodName := ⟨RX11, "isSweptBy", "(III)Z"⟩
abbrev cX11_isSwept : ByteArray := prog_13_method_32_code
def yX11_isSwept : MethodName := ⟨RX11, "isSwept", "(III)Z"⟩
abbrev cX11_isFreeWay : ByteArray := prog_13_method_33_code
def yX11_isFreeWay : MethodName := ⟨RX11, "isFreeWay", "(II)Z"⟩
abbrev cX11_isOnlyAt : ByteArray := prog_13_method_34_code
def yX11_isOnlyAt : MethodName := ⟨RX11, "isOnlyAt", "(II)Z"⟩
abbrev cX11_isAhead : ByteArray := prog_13_method_35_code
def yX11_isAhead : MethodName := ⟨RX11, "isAhead", "(IIII)Z"⟩
abbrev cX11_write : ByteArray := prog_13_method_36_code
def yX11_write : MethodName := ⟨RX11, "write", "(I)V"⟩
abbrev cX11_keep : ByteArray := prog_13_method_37_code
def yX11_keep : MethodName := ⟨RX11, "keep", "(I)V"⟩
abbrev cX11_next : ByteArray := prog_13_method_38_code
def yX11_next : MethodName := ⟨RX11, "next", "()I"⟩
abbrev cX11_restore : ByteArray := prog_13_method_39_code
def yX11_restore : MethodName := ⟨RX11, "restore", "(I)V"⟩
abbrev cX11_settle : ByteArray := prog_13_method_40_code
def yX11_settle : MethodName := ⟨RX11, "settle", "()V"⟩
abbrev cX11_begins : ByteArray := prog_13_method_41_code
def yX11_begins : MethodName := ⟨RX11, "begins", "()V"⟩
abbrev cX11_ends : ByteArray := prog_13_method_42_code
def yX11_ends : MethodName := ⟨RX11, "ends", "(III)I"⟩
abbrev cX11_feature : ByteArray := prog_13_method_43_code
def yX11_feature : MethodName := ⟨RX11, "feature", "(IIII)I"⟩
abbrev cX11_begin : ByteArray := prog_13_method_44_code
def yX11_begin : MethodName := ⟨RX11, "begin", "(IIIII)V"⟩
abbrev cX11_corner : ByteArray := prog_13_method_45_code
def yX11_corner : MethodName := ⟨RX11, "corner", "(III)I"⟩
abbrev cX11_tear : ByteArray := prog_13_method_46_code
def yX11_tear : MethodName := ⟨RX11, "tear", "(I)Z"⟩
abbrev cX11_done : ByteArray := prog_13_method_47_code
def yX11_done : MethodName := ⟨RX11, "done", "(I)Z"⟩
abbrev cX11_lose : ByteArray := prog_13_method_48_code
def yX11_lose : MethodName := ⟨RX11, "lose", "(IIII)V"⟩
abbrev cX11_isHeld : ByteArray := prog_13_method_49_code
def yX11_isHeld : MethodName := ⟨RX11, "isHeld", "(III)Z"⟩
abbrev cX11_triangle : ByteArray := prog_13_method_50_code
def yX11_triangle : MethodName := ⟨RX11, "triangle", "(II)J"⟩
abbrev cX11_mayGo : ByteArray := prog_13_method_51_code
def yX11_mayGo : MethodName := ⟨RX11, "mayGo", "(II)Z"⟩
abbrev cX11_goes : ByteArray := prog_13_method_52_code
def yX11_goes : MethodName := ⟨RX11, "goes", "(II)Z"⟩
abbrev cX11_plain : ByteArray := prog_13_method_53_code
def yX11_plain : MethodName := ⟨RX11, "plain", "(IJI)Z"⟩
abbrev cX11_plainAll : ByteArray := prog_13_method_54_code
def yX11_plainAll : MethodName := ⟨RX11, "plainAll", "(III)I"⟩
abbrev cX11_wrong : ByteArray := prog_13_method_55_code
def yX11_wrong : MethodName := ⟨RX11, "wrong", "(I)I"⟩
abbrev cX11_isPlainable : ByteArray := prog_13_method_56_code
def yX11_isPlainable : MethodName := ⟨RX11, "isPlainable", "(I)Z"⟩
abbrev cX11_plainer : ByteArray := prog_13_method_57_code
def yX11_plainer : MethodName := ⟨RX11, "plainer", "(II)I"⟩
abbrev cX11_tell : ByteArray := prog_13_method_58_code
def yX11_tell : MethodName := ⟨RX11, "tell", "(III)I"⟩
abbrev cX11_squeeze : ByteArray := prog_13_method_59_code
def yX11_squeeze : MethodName := ⟨RX11, "squeeze", "(I)V"⟩
abbrev cX11_run : ByteArray := prog_13_method_60_code
def yX11_run : MethodName := ⟨RX11, "run", "(I)I"⟩
abbrev cX11_changes : ByteArray := prog_13_method_61_code
def yX11_changes : MethodName := ⟨RX11, "changes", "(II)Z"⟩
abbrev cX11_moves : ByteArray := prog_13_method_62_code
def yX11_moves : MethodName := ⟨RX11, "moves", "(I)Z"⟩
abbrev cX11_smooth : ByteArray := prog_13_method_63_code
def yX11_smooth : MethodName := ⟨RX11, "smooth", "(I)Z"⟩
abbrev cX11_wayOf : ByteArray := prog_13_method_64_code
def yX11_wayOf : MethodName := ⟨RX11, "wayOf", "(III)I"⟩
abbrev cX11_shift : ByteArray := prog_13_method_65_code
def yX11_shift : MethodName := ⟨RX11, "shift", "(IIIII)Z"⟩
abbrev cX11_grow : ByteArray := prog_13_method_66_code
def yX11_grow : MethodName := ⟨RX11, "grow", "(I)Z"⟩
abbrev cX11_box : ByteArray := prog_13_method_67_code
def yX11_box : MethodName := ⟨RX11, "box", "(IZ)V"⟩
abbrev cX11_layBox : ByteArray := prog_13_method_68_code
def yX11_layBox : MethodName := ⟨RX11, "layBox", "(I)V"⟩
abbrev cX11_square : ByteArray := prog_13_method_69_code
def yX11_square : MethodName := ⟨RX11, "square", "(II)Z"⟩
abbrev cX11_isLess : ByteArray := prog_13_method_70_code
def yX11_isLess : MethodName := ⟨RX11, "isLess", "(JJJJ)Z"⟩
abbrev cX11_nearer : ByteArray := prog_13_method_71_code
def yX11_nearer : MethodName := ⟨RX11, "nearer", "([IIII)V"⟩
abbrev cX11_plainFraction : ByteArray := prog_13_method_72_code
def yX11_plainFraction : MethodName := ⟨RX11, "plainFraction", "()V"⟩
abbrev cX11_distance : ByteArray := prog_13_method_73_code
def yX11_distance : MethodName := ⟨RX11, "distance", "(II)V"⟩
abbrev cX11_join : ByteArray := prog_13_method_74_code
def yX11_join : MethodName := ⟨RX11, "join", "(III)I"⟩
abbrev cX11_gone : ByteArray := prog_13_method_75_code
def yX11_gone : MethodName := ⟨RX11, "gone", "(II)V"⟩
abbrev cX11_drop : ByteArray := prog_13_method_76_code
def yX11_drop : MethodName := ⟨RX11, "drop", "(I)Z"⟩
abbrev cX11_dropMarked : ByteArray := prog_13_method_77_code
def yX11_dropMarked : MethodName := ⟨RX11, "dropMarked", "(I)I"⟩
abbrev cX11_isSmall : ByteArray := prog_13_method_78_code
def yX11_isSmall : MethodName := ⟨RX11, "isSmall", "(II)Z"⟩
abbrev cX11_few : ByteArray := prog_13_method_79_code
def yX11_few : MethodName := ⟨RX11, "few", "(II)I"⟩
abbrev cX11_placeOf : ByteArray := prog_13_method_80_code
def yX11_placeOf : MethodName := ⟨RX11, "placeOf", "(II)I"⟩
abbrev cX11_isRoad : ByteArray := prog_13_method_81_code
def yX11_isRoad : MethodName := ⟨RX11, "isRoad", "(I)Z"⟩
abbrev cX11_weight : ByteArray := prog_13_method_82_code
def yX11_weight : MethodName := ⟨RX11, "weight", "(I)J"⟩
abbrev cX11_choose : ByteArray := prog_13_method_83_code
def yX11_choose : MethodName := ⟨RX11, "choose", "()I"⟩
abbrev cX11_undo : ByteArray := prog_13_method_84_code
def yX11_undo : MethodName := ⟨RX11, "undo", "()I"⟩
abbrev cX11_redo : ByteArray := prog_13_method_85_code
def yX11_redo : MethodName := ⟨RX11, "redo", "()I"⟩
abbrev cX11_meets : ByteArray := prog_13_method_86_code
def yX11_meets : MethodName := ⟨RX11, "meets", "(II)Z"⟩
abbrev cX11_inside : ByteArray := prog_13_method_87_code
def yX11_inside : MethodName := ⟨RX11, "inside", "(III)I"⟩
abbrev cX11_side : ByteArray := prog_13_method_88_code
def yX11_side : MethodName := ⟨RX11, "side", "(IIII)I"⟩
abbrev cX11_near : ByteArray := prog_13_method_89_code
def yX11_near : MethodName := ⟨RX11, "near", "(III)J"⟩
abbrev cX11_isClash : ByteArray := prog_13_method_90_code
def yX11_isClash : MethodName := ⟨RX11, "isClash", "(III)Z"⟩
abbrev cX11_clashes : ByteArray := prog_13_method_91_code
def yX11_clashes : MethodName := ⟨RX11, "clashes", "(I)I"⟩
abbrev cX11_clash : ByteArray := prog_13_method_92_code
def yX11_clash : MethodName := ⟨RX11, "clash", "(III)I"⟩
abbrev cX11_far : ByteArray := prog_13_method_93_code
def yX11_far : MethodName := ⟨RX11, "far", "(II)J"⟩
abbrev cX11_size : ByteArray := prog_13_method_94_code
def yX11_size : MethodName := ⟨RX11, "size", "(I)J"⟩
abbrev cX11_at : ByteArray := prog_13_method_95_code
def yX11_at : MethodName := ⟨RX11, "at", "(III)I"⟩
abbrev cX11_told : ByteArray := prog_13_method_96_code
def yX11_told : MethodName := ⟨RX11, "told", "(II)I"⟩
abbrev cX11_step : ByteArray := prog_13_method_97_code
def yX11_step : MethodName := ⟨RX11, "step", "(II)I"⟩
abbrev cX11_count : ByteArray := prog_13_method_98_code
def yX11_count : MethodName := ⟨RX11, "count", "(I)I"⟩
abbrev cX11_status : ByteArray := prog_13_method_99_code
def yX11_status : MethodName := ⟨RX11, "status", "()I"⟩
def RJxa1e45 : String := "java/util/AbstractCollection"
abbrev cJxa1e45_init_da8c8 : ByteArray := prog_19_method_1_code
def yJxa1e45_init_da8c8 : MethodName := ⟨RJxa1e45, "<init>", "()V"⟩
def RJxc12de : String := "java/util/AbstractList"
abbrev cJxc12de_init_da8c8 : ByteArray := prog_20_method_1_code
def yJxc12de_init_da8c8 : MethodName := ⟨RJxc12de, "<init>", "()V"⟩
abbrev cJx4a65c_init_da8c8 : ByteArray := prog_21_method_2_code
def yJx4a65c_init_da8c8 : MethodName := ⟨RJx4a65c, "<init>", "()V"⟩
abbrev cJx4a65c_grow_92f84 : ByteArray := prog_21_method_6_code
def yJx4a65c_grow_92f84 : MethodName := ⟨RJx4a65c, "grow", "(I)[Ljava/lang/Object;"⟩
abbrev cJx4a65c_grow_d5877 : ByteArray := prog_21_method_7_code
def yJx4a65c_grow_d5877 : MethodName := ⟨RJx4a65c, "grow", "()[Ljava/lang/Object;"⟩
abbrev cJx4a65c_size_8abf5 : ByteArray := prog_21_method_8_code
def yJx4a65c_size_8abf5 : MethodName := ⟨RJx4a65c, "size", "()I"⟩
abbrev cJx4a65c_elementData_915e3 : ByteArray := prog_21_method_18_code
def yJx4a65c_elementData_915e3 : MethodName := ⟨RJx4a65c, "elementData", "(I)Ljava/lang/Object;"⟩
abbrev cJx4a65c_get_915e3 : ByteArray := prog_21_method_20_code
def yJx4a65c_get_915e3 : MethodName := ⟨RJx4a65c, "get", "(I)Ljava/lang/Object;"⟩
abbrev cJx4a65c_add_72be8 : ByteArray := prog_21_method_24_code
def yJx4a65c_add_72be8 : MethodName := ⟨RJx4a65c, "add", "(Ljava/lang/Object;[Ljava/lang/Object;I)V"⟩
abbrev cJx4a65c_add_9ea2d : ByteArray := prog_21_method_25_code
def yJx4a65c_add_9ea2d : MethodName := ⟨RJx4a65c, "add", "(Ljava/lang/Object;)Z"⟩
abbrev cJx4a65c_remove_915e3 : ByteArray := prog_21_method_29_code
def yJx4a65c_remove_915e3 : MethodName := ⟨RJx4a65c, "remove", "(I)Ljava/lang/Object;"⟩
abbrev cJx4a65c_fastRemove_b59b0 : ByteArray := prog_21_method_39_code
def yJx4a65c_fastRemove_b59b0 : MethodName := ⟨RJx4a65c, "fastRemove", "([Ljava/lang/Object;I)V"⟩
def RJ7 : String := "java/util/Arrays"
abbrev cJ7_copyOf_1904c : ByteArray := prog_22_method_119_code
def yJ7_copyOf_1904c : MethodName := ⟨RJ7, "copyOf", "([Ljava/lang/Object;I)[Ljava/lang/Object;"⟩
abbrev cJ7_copyOf_6403c : ByteArray := prog_22_method_120_code
def yJ7_copyOf_6403c : MethodName := ⟨RJ7, "copyOf", "([Ljava/lang/Object;ILjava/lang/Class;)[Ljava/lang/Object;"⟩
def RJ15 : String := "java/util/Objects"
abbrev cJ15_checkIndex_7cf53 : ByteArray := prog_25_method_17_code
def yJ15_checkIndex_7cf53 : MethodName := ⟨RJ15, "checkIndex", "(II)I"⟩
def RJ8 : String := "jdk/internal/util/ArraysSupport"
abbrev cJ8_newLength_cabcc : ByteArray := prog_28_method_27_code
def yJ8_newLength_cabcc : MethodName := ⟨RJ8, "newLength", "(III)I"⟩
def RJ3 : String := "jdk/internal/util/Preconditions"
abbrev cJ3_checkIndex_8e157 : ByteArray := prog_29_method_11_code
def yJ3_checkIndex_8e157 : MethodName := ⟨RJ3, "checkIndex", "(IILjava/util/function/BiFunction;)I"⟩
abbrev cL_law : ByteArray := code
end
section
theorem zm {w : Cond} (h : w ∈ tables_1) (g : goodWord w = true) : w ∈ ws0 := List.mem_filter.mpr ⟨List.mem_append_right _ h, g⟩
theorem mw_objcode : (Cond.code Lib.objectInit ⟨#[0xb1]⟩ 1 none) ∈ ws0 := zz_m 127 (by decide +kernel) (by decide +kernel)
theorem mw_maxcode : (Cond.code Lib.Math.max.name Lib.Math.max.code 2 (some .int)) ∈ ws0 := zz_m 160 (by decide +kernel) (by decide +kernel)
theorem mw_mincode : (Cond.code Lib.Math.min.name Lib.Math.min.code 2 (some .int)) ∈ ws0 := zz_m 859 (by decide +kernel) (by decide +kernel)
theorem mw_abscode : (Cond.code Lib.Math.abs.name Lib.Math.abs.code 1 (some .int)) ∈ ws0 := zz_m 590 (by decide +kernel) (by decide +kernel)
theorem mw_99 : (Jvm.Cond.initialized "ScaleShop") ∈ ws0 := zm (tb_1 (x1 (xh))) rfl
theorem mw_100 : (Jvm.Cond.initialized "ScaleShop$Sheet") ∈ ws0 := zm (tb_1 (x1 (x1 (xh)))) rfl
theorem mw_101 : (Jvm.Cond.initialized "ScaleShop$Law") ∈ ws0 := zm (tb_1 (x1 (x1 (x1 (xh))))) rfl
theorem mw_102 : (Jvm.Cond.initialized "ScaleShop$Row") ∈ ws0 := zm (tb_1 (x1 (x1 (x1 (x1 (xh)))))) rfl
theorem mw_103 : (Jvm.Cond.initialized "java/lang/Math") ∈ ws0 := zm (tb_1 (x1 (x1 (x1 (x1 (x1 (xh))))))) rfl
theorem mw_104 : (Jvm.Cond.initialized "ScaleShop$Box") ∈ ws0 := zm (tb_1 (x1 (x1 (x1 (x1 (x1 (x1 (xh)))))))) rfl
theorem mw_105 : (Jvm.Cond.initialized "ScaleShop$Roads") ∈ ws0 := zm (tb_1 (x1 (x1 (x1 (x1 (x1 (x1 (x1 (xh))))))))) rfl
theorem mw_106 : (Jvm.Cond.initialized "ScaleShop$Fraction") ∈ ws0 := zm (tb_1 (x1 (x1 (x1 (x1 (x1 (x1 (x1 (x1 (xh)))))))))) rfl
theorem mw_107 : (Jvm.Cond.initialized "java/util/AbstractCollection") ∈ ws0 := zm (tb_1 (x1 (x1 (x1 (x1 (x1 (x1 (x1 (x1 (x1 (xh))))))))))) rfl
theorem mw_108 : (Jvm.Cond.initialized "java/util/AbstractList") ∈ ws0 := zm (tb_1 (x1 (x1 (x1 (x1 (x1 (x1 (x1 (x1 (x1 (x1 (xh)))))))))))) rfl
theorem mw_109 : (Jvm.Cond.initialized "java/util/ArrayList") ∈ ws0 := zm (tb_1 (x1 (x1 (x1 (x1 (x1 (x1 (x1 (x1 (x1 (x1 (x1 (xh))))))))))))) rfl
theorem mw_110 : (Jvm.Cond.initialized "ScaleShopModel") ∈ ws0 := zm (tb_1 (x1 (x1 (x1 (x1 (x1 (x1 (x1 (x1 (x1 (x1 (x1 (x1 (xh)))))))))))))) rfl
theorem mw_111 : (Jvm.Cond.initialized "ScaleShop$Feature") ∈ ws0 := zm (tb_1 (x1 (x1 (x1 (x1 (x1 (x1 (x1 (x1 (x1 (x1 (x1 (x1 (x1 (xh))))))))))))))) rfl
theorem mw_112 : (Jvm.Cond.initialized "ScaleShop$Look") ∈ ws0 := zm (tb_1 (x1 (x1 (x1 (x1 (x1 (x1 (x1 (x1 (x1 (x1 (x1 (x1 (x1 (x1 (xh)))))))))))))))) rfl
theorem mw_113 : (Jvm.Cond.initialized "java/util/Objects") ∈ ws0 := zm (tb_1 (x1 (x1 (x1 (x1 (x1 (x1 (x1 (x1 (x1 (x1 (x1 (x1 (x1 (x1 (x1 (xh))))))))))))))))) rfl
theorem mw_114 : (Jvm.Cond.initialized "jdk/internal/util/Preconditions") ∈ ws0 := zm (tb_1 (x16 (xh))) rfl
theorem mw_115 : (Jvm.Cond.initialized "java/lang/System") ∈ ws0 := zm (tb_1 (x16 (x1 (xh)))) rfl
theorem mw_116 : (Jvm.Cond.initialized "ScaleShop$Step") ∈ ws0 := zm (tb_1 (x16 (x1 (x1 (xh))))) rfl
theorem mw_117 : (Jvm.Cond.initialized "ScaleShop$Change") ∈ ws0 := zm (tb_1 (x16 (x1 (x1 (x1 (xh)))))) rfl
theorem mw_118 : (Jvm.Cond.initialized "jdk/internal/util/ArraysSupport") ∈ ws0 := zm (tb_1 (x16 (x1 (x1 (x1 (x1 (xh))))))) rfl
theorem mw_119 : (Jvm.Cond.initialized "java/util/Arrays") ∈ ws0 := zm (tb_1 (x16 (x1 (x1 (x1 (x1 (x1 (xh)))))))) rfl
theorem mw_120 : (Jvm.Cond.classLink "ScaleShopLaw" (7 : Nat) "ScaleShop") ∈ ws0 := zm (tb_1 (x16 (x1 (x1 (x1 (x1 (x1 (x1 (xh))))))))) rfl
theorem mw_121 : (Jvm.Cond.instantiable "ScaleShop" (13 : Nat)) ∈ ws0 := zm (tb_1 (x16 (x1 (x1 (x1 (x1 (x1 (x1 (x1 (xh)))))))))) rfl
theorem mw_122 : (Jvm.Cond.methodLink "ScaleShopLaw" (9 : Nat) ({ cls := "ScaleShop", name := "<init>", desc := "()V" } : Jvm.MethodName)) ∈ ws0 := zm (tb_1 (x16 (x1 (x1 (x1 (x1 (x1 (x1 (x1 (x1 (xh))))))))))) rfl
theorem mw_123 : (Jvm.Cond.instanceMethod ({ cls := "ScaleShop", name := "<init>", desc := "()V" } : Jvm.MethodName)) ∈ ws0 := zm (tb_1 (x16 (x1 (x1 (x1 (x1 (x1 (x1 (x1 (x1 (x1 (xh)))))))))))) rfl
theorem mc_yX10_init : (Cond.code yX10_init cX10_init 1 none) ∈ ws0 := zm (tb_1 (x16 (x1 (x1 (x1 (x1 (x1 (x1 (x1 (x1 (x1 (x1 (xh))))))))))))) rfl
theorem mw_125 : (Jvm.Cond.methodLink "ScaleShop" (3 : Nat) ({ cls := "java/lang/Object", name := "<init>", desc := "()V" } : Jvm.MethodName)) ∈ ws0 := zm (tb_1 (x16 (x1 (x1 (x1 (x1 (x1 (x1 (x1 (x1 (x1 (x1 (x1 (xh)))))))))))))) rfl
theorem mw_126 : (Jvm.Cond.instanceMethod ({ cls := "java/lang/Object", name := "<init>", desc := "()V" } : Jvm.MethodName)) ∈ ws0 := zm (tb_1 (x16 (x1 (x1 (x1 (x1 (x1 (x1 (x1 (x1 (x1 (x1 (x1 (x1 (xh))))))))))))))) rfl
theorem mw_128 : (Jvm.Cond.classLink "ScaleShop" (9 : Nat) "ScaleShop$Sheet") ∈ ws0 := zm (tb_1 (x16 (x1 (x1 (x1 (x1 (x1 (x1 (x1 (x1 (x1 (x1 (x1 (x1 (x1 (x1 (xh))))))))))))))))) rfl
theorem mw_129 : (Jvm.Cond.instantiable "ScaleShop$Sheet" (2 : Nat)) ∈ ws0 := zm (tb_1 (x16 (x1 (x1 (x1 (x1 (x1 (x1 (x1 (x1 (x1 (x1 (x1 (x1 (x1 (x1 (x1 (xh)))))))))))))))))) rfl
theorem mw_130 : (Jvm.Cond.methodLink "ScaleShop" (11 : Nat) ({ cls := "ScaleShop$Sheet", name := "<init>", desc := "()V" } : Jvm.MethodName)) ∈ ws0 := zm (tb_1 (x16 (x16 (xh)))) rfl
theorem mw_131 : (Jvm.Cond.instanceMethod ({ cls := "ScaleShop$Sheet", name := "<init>", desc := "()V" } : Jvm.MethodName)) ∈ ws0 := zm (tb_1 (x16 (x16 (x1 (xh))))) rfl
theorem mc_yX8_init : (Cond.code yX8_init cX8_init 1 none) ∈ ws0 := zm (tb_1 (x16 (x16 (x1 (x1 (xh)))))) rfl
theorem mw_133 : (Jvm.Cond.methodLink "ScaleShop$Sheet" (3 : Nat) ({ cls := "java/lang/Object", name := "<init>", desc := "()V" } : Jvm.MethodName)) ∈ ws0 := zm (tb_1 (x16 (x16 (x1 (x1 (x1 (xh))))))) rfl
theorem mw_134 : (Jvm.Cond.classLink "ScaleShop$Sheet" (9 : Nat) "ScaleShop$Feature") ∈ ws0 := zm (tb_1 (x16 (x16 (x1 (x1 (x1 (x1 (xh)))))))) rfl
theorem mw_136 : (Jvm.Cond.fieldLink "ScaleShop$Sheet" (11 : Nat) "ScaleShop$Sheet" "features" "[LScaleShop$Feature;") ∈ ws0 := zm (tb_1 (x16 (x16 (x1 (x1 (x1 (x1 (x1 (x1 (xh)))))))))) rfl
theorem mw_137 : (Jvm.Cond.fieldLink "ScaleShop$Sheet" (17 : Nat) "ScaleShop$Sheet" "total" "I") ∈ ws0 := zm (tb_1 (x16 (x16 (x1 (x1 (x1 (x1 (x1 (x1 (x1 (xh))))))))))) rfl
theorem mw_138 : (Jvm.Cond.fieldLink "ScaleShop$Roads" (34 : Nat) "ScaleShop$Sheet" "total" "I") ∈ ws0 := zm (tb_1 (x16 (x16 (x1 (x1 (x1 (x1 (x1 (x1 (x1 (x1 (xh)))))))))))) rfl
theorem mw_139 : (Jvm.Cond.fieldLink "ScaleShop$Law" (93 : Nat) "ScaleShop$Sheet" "total" "I") ∈ ws0 := zm (tb_1 (x16 (x16 (x1 (x1 (x1 (x1 (x1 (x1 (x1 (x1 (x1 (xh))))))))))))) rfl
theorem mw_140 : (Jvm.Cond.fieldLink "ScaleShop" (224 : Nat) "ScaleShop$Sheet" "total" "I") ∈ ws0 := zm (tb_1 (x16 (x16 (x1 (x1 (x1 (x1 (x1 (x1 (x1 (x1 (x1 (x1 (xh)))))))))))))) rfl
theorem mw_146 : (Jvm.Cond.classLink "ScaleShop" (16 : Nat) "ScaleShop$Law") ∈ ws0 := zm (tb_1 (x16 (x16 (x16 (xh))))) rfl
theorem mw_147 : (Jvm.Cond.instantiable "ScaleShop$Law" (6 : Nat)) ∈ ws0 := zm (tb_1 (x16 (x16 (x16 (x1 (xh)))))) rfl
theorem mw_148 : (Jvm.Cond.methodLink "ScaleShop" (18 : Nat) ({ cls := "ScaleShop$Law", name := "<init>", desc := "()V" } : Jvm.MethodName)) ∈ ws0 := zm (tb_1 (x16 (x16 (x16 (x1 (x1 (xh))))))) rfl
theorem mw_149 : (Jvm.Cond.instanceMethod ({ cls := "ScaleShop$Law", name := "<init>", desc := "()V" } : Jvm.MethodName)) ∈ ws0 := zm (tb_1 (x16 (x16 (x16 (x1 (x1 (x1 (xh)))))))) rfl
theorem mc_yX4_init : (Cond.code yX4_init cX4_init 1 none) ∈ ws0 := zm (tb_1 (x16 (x16 (x16 (x1 (x1 (x1 (x1 (xh))))))))) rfl
theorem mw_151 : (Jvm.Cond.methodLink "ScaleShop$Law" (3 : Nat) ({ cls := "java/lang/Object", name := "<init>", desc := "()V" } : Jvm.MethodName)) ∈ ws0 := zm (tb_1 (x16 (x16 (x16 (x1 (x1 (x1 (x1 (x1 (xh)))))))))) rfl
theorem mw_152 : (Jvm.Cond.classLink "ScaleShop$Law" (9 : Nat) "ScaleShop$Row") ∈ ws0 := zm (tb_1 (x16 (x16 (x16 (x1 (x1 (x1 (x1 (x1 (x1 (xh))))))))))) rfl
theorem mw_153 : (Jvm.Cond.instantiable "ScaleShop$Row" (4 : Nat)) ∈ ws0 := zm (tb_1 (x16 (x16 (x16 (x1 (x1 (x1 (x1 (x1 (x1 (x1 (xh)))))))))))) rfl
theorem mw_154 : (Jvm.Cond.methodLink "ScaleShop$Law" (11 : Nat) ({ cls := "ScaleShop$Row", name := "<init>", desc := "(IZ)V" } : Jvm.MethodName)) ∈ ws0 := zm (tb_1 (x16 (x16 (x16 (x1 (x1 (x1 (x1 (x1 (x1 (x1 (x1 (xh))))))))))))) rfl
theorem mw_155 : (Jvm.Cond.instanceMethod ({ cls := "ScaleShop$Row", name := "<init>", desc := "(IZ)V" } : Jvm.MethodName)) ∈ ws0 := zm (tb_1 (x16 (x16 (x16 (x1 (x1 (x1 (x1 (x1 (x1 (x1 (x1 (x1 (xh)))))))))))))) rfl
theorem mc_yX7_init : (Cond.code yX7_init cX7_init 4 none) ∈ ws0 := zm (tb_1 (x16 (x16 (x16 (x1 (x1 (x1 (x1 (x1 (x1 (x1 (x1 (x1 (x1 (xh))))))))))))))) rfl
theorem mw_157 : (Jvm.Cond.methodLink "ScaleShop$Row" (3 : Nat) ({ cls := "java/lang/Object", name := "<init>", desc := "()V" } : Jvm.MethodName)) ∈ ws0 := zm (tb_1 (x16 (x16 (x16 (x1 (x1 (x1 (x1 (x1 (x1 (x1 (x1 (x1 (x1 (x1 (xh)))))))))))))))) rfl
theorem mw_158 : (Jvm.Cond.methodLink "ScaleShop$Row" (15 : Nat) ({ cls := "java/lang/Math", name := "max", desc := "(II)I" } : Jvm.MethodName)) ∈ ws0 := zm (tb_1 (x16 (x16 (x16 (x1 (x1 (x1 (x1 (x1 (x1 (x1 (x1 (x1 (x1 (x1 (x1 (xh))))))))))))))))) rfl
theorem mw_159 : (Jvm.Cond.static ({ cls := "java/lang/Math", name := "max", desc := "(II)I" } : Jvm.MethodName)) ∈ ws0 := zm (tb_1 (x16 (x16 (x16 (x1 (x1 (x1 (x1 (x1 (x1 (x1 (x1 (x1 (x1 (x1 (x1 (x1 (xh)))))))))))))))))) rfl
theorem mw_161 : (Jvm.Cond.fieldLink "ScaleShop$Row" (21 : Nat) "ScaleShop$Row" "x" "[I") ∈ ws0 := zm (tb_1 (x16 (x16 (x16 (x1 (x1 (x1 (x1 (x1 (x1 (x1 (x1 (x1 (x1 (x1 (x1 (x1 (x1 (x1 (xh)))))))))))))))))))) rfl
theorem mw_162 : (Jvm.Cond.fieldLink "ScaleShop$Roads" (74 : Nat) "ScaleShop$Row" "x" "[I") ∈ ws0 := zm (tb_1 (x16 (x16 (x16 (x16 (xh)))))) rfl
theorem mw_163 : (Jvm.Cond.fieldLink "ScaleShop$Law" (79 : Nat) "ScaleShop$Row" "x" "[I") ∈ ws0 := zm (tb_1 (x16 (x16 (x16 (x16 (x1 (xh))))))) rfl
theorem mw_164 : (Jvm.Cond.fieldLink "ScaleShop$Box" (22 : Nat) "ScaleShop$Row" "x" "[I") ∈ ws0 := zm (tb_1 (x16 (x16 (x16 (x16 (x1 (x1 (xh)))))))) rfl
theorem mw_165 : (Jvm.Cond.fieldLink "ScaleShop$Feature" (80 : Nat) "ScaleShop$Row" "x" "[I") ∈ ws0 := zm (tb_1 (x16 (x16 (x16 (x16 (x1 (x1 (x1 (xh))))))))) rfl
theorem mw_166 : (Jvm.Cond.fieldLink "ScaleShop$Fraction" (36 : Nat) "ScaleShop$Row" "x" "[I") ∈ ws0 := zm (tb_1 (x16 (x16 (x16 (x16 (x1 (x1 (x1 (x1 (xh)))))))))) rfl
theorem mw_167 : (Jvm.Cond.fieldLink "ScaleShop" (308 : Nat) "ScaleShop$Row" "x" "[I") ∈ ws0 := zm (tb_1 (x16 (x16 (x16 (x16 (x1 (x1 (x1 (x1 (x1 (xh))))))))))) rfl
theorem mw_168 : (Jvm.Cond.fieldLink "ScaleShop$Row" (25 : Nat) "ScaleShop$Row" "y" "[I") ∈ ws0 := zm (tb_1 (x16 (x16 (x16 (x16 (x1 (x1 (x1 (x1 (x1 (x1 (xh)))))))))))) rfl
theorem mw_169 : (Jvm.Cond.fieldLink "ScaleShop$Roads" (77 : Nat) "ScaleShop$Row" "y" "[I") ∈ ws0 := zm (tb_1 (x16 (x16 (x16 (x16 (x1 (x1 (x1 (x1 (x1 (x1 (x1 (xh))))))))))))) rfl
theorem mw_170 : (Jvm.Cond.fieldLink "ScaleShop$Law" (82 : Nat) "ScaleShop$Row" "y" "[I") ∈ ws0 := zm (tb_1 (x16 (x16 (x16 (x16 (x1 (x1 (x1 (x1 (x1 (x1 (x1 (x1 (xh)))))))))))))) rfl
theorem mw_171 : (Jvm.Cond.fieldLink "ScaleShop$Box" (28 : Nat) "ScaleShop$Row" "y" "[I") ∈ ws0 := zm (tb_1 (x16 (x16 (x16 (x16 (x1 (x1 (x1 (x1 (x1 (x1 (x1 (x1 (x1 (xh))))))))))))))) rfl
theorem mw_172 : (Jvm.Cond.fieldLink "ScaleShop$Feature" (84 : Nat) "ScaleShop$Row" "y" "[I") ∈ ws0 := zm (tb_1 (x16 (x16 (x16 (x16 (x1 (x1 (x1 (x1 (x1 (x1 (x1 (x1 (x1 (x1 (xh)))))))))))))))) rfl
theorem mw_173 : (Jvm.Cond.fieldLink "ScaleShop$Fraction" (40 : Nat) "ScaleShop$Row" "y" "[I") ∈ ws0 := zm (tb_1 (x16 (x16 (x16 (x16 (x1 (x1 (x1 (x1 (x1 (x1 (x1 (x1 (x1 (x1 (x1 (xh))))))))))))))))) rfl
theorem mw_174 : (Jvm.Cond.fieldLink "ScaleShop" (312 : Nat) "ScaleShop$Row" "y" "[I") ∈ ws0 := zm (tb_1 (x16 (x16 (x16 (x16 (x1 (x1 (x1 (x1 (x1 (x1 (x1 (x1 (x1 (x1 (x1 (x1 (xh)))))))))))))))))) rfl
theorem mw_175 : (Jvm.Cond.fieldLink "ScaleShop$Row" (9 : Nat) "ScaleShop$Row" "n" "I") ∈ ws0 := zm (tb_1 (x16 (x16 (x16 (x16 (x1 (x1 (x1 (x1 (x1 (x1 (x1 (x1 (x1 (x1 (x1 (x1 (x1 (xh))))))))))))))))))) rfl
theorem mw_176 : (Jvm.Cond.fieldLink "ScaleShop$Law" (55 : Nat) "ScaleShop$Row" "n" "I") ∈ ws0 := zm (tb_1 (x16 (x16 (x16 (x16 (x1 (x1 (x1 (x1 (x1 (x1 (x1 (x1 (x1 (x1 (x1 (x1 (x1 (x1 (xh)))))))))))))))))))) rfl
theorem mw_177 : (Jvm.Cond.fieldLink "ScaleShop$Roads" (73 : Nat) "ScaleShop$Row" "n" "I") ∈ ws0 := zm (tb_1 (x16 (x16 (x16 (x16 (x1 (x1 (x1 (x1 (x1 (x1 (x1 (x1 (x1 (x1 (x1 (x1 (x1 (x1 (x1 (xh))))))))))))))))))))) rfl
theorem mw_178 : (Jvm.Cond.fieldLink "ScaleShop$Feature" (54 : Nat) "ScaleShop$Row" "n" "I") ∈ ws0 := zm (tb_1 (x16 (x16 (x16 (x16 (x16 (xh))))))) rfl
theorem mw_179 : (Jvm.Cond.fieldLink "ScaleShop" (127 : Nat) "ScaleShop$Row" "n" "I") ∈ ws0 := zm (tb_1 (x16 (x16 (x16 (x16 (x16 (x1 (xh)))))))) rfl
theorem mw_180 : (Jvm.Cond.fieldLink "ScaleShop$Box" (39 : Nat) "ScaleShop$Row" "n" "I") ∈ ws0 := zm (tb_1 (x16 (x16 (x16 (x16 (x16 (x1 (x1 (xh))))))))) rfl
theorem mw_181 : (Jvm.Cond.fieldLink "ScaleShop$Fraction" (57 : Nat) "ScaleShop$Row" "n" "I") ∈ ws0 := zm (tb_1 (x16 (x16 (x16 (x16 (x16 (x1 (x1 (x1 (xh)))))))))) rfl
theorem mw_182 : (Jvm.Cond.fieldLink "ScaleShop$Sheet" (55 : Nat) "ScaleShop$Row" "n" "I") ∈ ws0 := zm (tb_1 (x16 (x16 (x16 (x16 (x16 (x1 (x1 (x1 (x1 (xh))))))))))) rfl
theorem mw_183 : (Jvm.Cond.fieldLink "ScaleShop$Row" (28 : Nat) "ScaleShop$Row" "ring" "Z") ∈ ws0 := zm (tb_1 (x16 (x16 (x16 (x16 (x16 (x1 (x1 (x1 (x1 (x1 (xh)))))))))))) rfl
theorem mw_184 : (Jvm.Cond.fieldLink "ScaleShop$Law" (51 : Nat) "ScaleShop$Row" "ring" "Z") ∈ ws0 := zm (tb_1 (x16 (x16 (x16 (x16 (x16 (x1 (x1 (x1 (x1 (x1 (x1 (xh))))))))))))) rfl
theorem mw_185 : (Jvm.Cond.fieldLink "ScaleShop" (270 : Nat) "ScaleShop$Row" "ring" "Z") ∈ ws0 := zm (tb_1 (x16 (x16 (x16 (x16 (x16 (x1 (x1 (x1 (x1 (x1 (x1 (x1 (xh)))))))))))))) rfl
theorem mw_195 : (Jvm.Cond.arrayClass Jvm.ClassFile.FieldType.int) ∈ ws0 := zm (tb_1 (x16 (x16 (x16 (x16 (x16 (x16 (x1 (xh))))))))) rfl
theorem mw_196 : (Jvm.Cond.classLink "ScaleShop$Law" (26 : Nat) "ScaleShop$Box") ∈ ws0 := zm (tb_1 (x16 (x16 (x16 (x16 (x16 (x16 (x1 (x1 (xh)))))))))) rfl
theorem mw_197 : (Jvm.Cond.instantiable "ScaleShop$Box" (4 : Nat)) ∈ ws0 := zm (tb_1 (x16 (x16 (x16 (x16 (x16 (x16 (x1 (x1 (x1 (xh))))))))))) rfl
theorem mw_198 : (Jvm.Cond.methodLink "ScaleShop$Law" (28 : Nat) ({ cls := "ScaleShop$Box", name := "<init>", desc := "()V" } : Jvm.MethodName)) ∈ ws0 := zm (tb_1 (x16 (x16 (x16 (x16 (x16 (x16 (x1 (x1 (x1 (x1 (xh)))))))))))) rfl
theorem mw_199 : (Jvm.Cond.instanceMethod ({ cls := "ScaleShop$Box", name := "<init>", desc := "()V" } : Jvm.MethodName)) ∈ ws0 := zm (tb_1 (x16 (x16 (x16 (x16 (x16 (x16 (x1 (x1 (x1 (x1 (x1 (xh))))))))))))) rfl
theorem mc_yX0_init : (Cond.code yX0_init cX0_init 1 none) ∈ ws0 := zm (tb_1 (x16 (x16 (x16 (x16 (x16 (x16 (x1 (x1 (x1 (x1 (x1 (x1 (xh)))))))))))))) rfl
theorem mw_201 : (Jvm.Cond.methodLink "ScaleShop$Box" (1 : Nat) ({ cls := "java/lang/Object", name := "<init>", desc := "()V" } : Jvm.MethodName)) ∈ ws0 := zm (tb_1 (x16 (x16 (x16 (x16 (x16 (x16 (x1 (x1 (x1 (x1 (x1 (x1 (x1 (xh))))))))))))))) rfl
theorem mw_202 : (Jvm.Cond.fieldLink "ScaleShop$Box" (7 : Nat) "ScaleShop$Box" "left" "I") ∈ ws0 := zm (tb_1 (x16 (x16 (x16 (x16 (x16 (x16 (x1 (x1 (x1 (x1 (x1 (x1 (x1 (x1 (xh)))))))))))))))) rfl
theorem mw_203 : (Jvm.Cond.fieldLink "ScaleShop$Row" (97 : Nat) "ScaleShop$Box" "left" "I") ∈ ws0 := zm (tb_1 (x16 (x16 (x16 (x16 (x16 (x16 (x1 (x1 (x1 (x1 (x1 (x1 (x1 (x1 (x1 (xh))))))))))))))))) rfl
theorem mw_204 : (Jvm.Cond.fieldLink "ScaleShop$Box" (13 : Nat) "ScaleShop$Box" "low" "I") ∈ ws0 := zm (tb_1 (x16 (x16 (x16 (x16 (x16 (x16 (x1 (x1 (x1 (x1 (x1 (x1 (x1 (x1 (x1 (x1 (xh)))))))))))))))))) rfl
theorem mw_205 : (Jvm.Cond.fieldLink "ScaleShop$Row" (102 : Nat) "ScaleShop$Box" "low" "I") ∈ ws0 := zm (tb_1 (x16 (x16 (x16 (x16 (x16 (x16 (x1 (x1 (x1 (x1 (x1 (x1 (x1 (x1 (x1 (x1 (x1 (xh))))))))))))))))))) rfl
theorem mw_206 : (Jvm.Cond.fieldLink "ScaleShop$Box" (16 : Nat) "ScaleShop$Box" "right" "I") ∈ ws0 := zm (tb_1 (x16 (x16 (x16 (x16 (x16 (x16 (x1 (x1 (x1 (x1 (x1 (x1 (x1 (x1 (x1 (x1 (x1 (x1 (xh)))))))))))))))))))) rfl
theorem mw_207 : (Jvm.Cond.fieldLink "ScaleShop$Row" (105 : Nat) "ScaleShop$Box" "right" "I") ∈ ws0 := zm (tb_1 (x16 (x16 (x16 (x16 (x16 (x16 (x1 (x1 (x1 (x1 (x1 (x1 (x1 (x1 (x1 (x1 (x1 (x1 (x1 (xh))))))))))))))))))))) rfl
theorem mw_208 : (Jvm.Cond.fieldLink "ScaleShop$Box" (19 : Nat) "ScaleShop$Box" "high" "I") ∈ ws0 := zm (tb_1 (x16 (x16 (x16 (x16 (x16 (x16 (x1 (x1 (x1 (x1 (x1 (x1 (x1 (x1 (x1 (x1 (x1 (x1 (x1 (x1 (xh)))))))))))))))))))))) rfl
theorem mw_209 : (Jvm.Cond.fieldLink "ScaleShop$Row" (108 : Nat) "ScaleShop$Box" "high" "I") ∈ ws0 := zm (tb_1 (x16 (x16 (x16 (x16 (x16 (x16 (x1 (x1 (x1 (x1 (x1 (x1 (x1 (x1 (x1 (x1 (x1 (x1 (x1 (x1 (x1 (xh))))))))))))))))))))))) rfl
theorem mw_219 : (Jvm.Cond.fieldLink "ScaleShop$Law" (14 : Nat) "ScaleShop$Law" "draft" "LScaleShop$Row;") ∈ ws0 := zm (tb_1 (x16 (x16 (x16 (x16 (x16 (x16 (x16 (x1 (x1 (x1 (x1 (x1 (x1 (x1 (x1 (x1 (xh)))))))))))))))))) rfl
theorem mw_220 : (Jvm.Cond.fieldLink "ScaleShop" (158 : Nat) "ScaleShop$Law" "draft" "LScaleShop$Row;") ∈ ws0 := zm (tb_1 (x16 (x16 (x16 (x16 (x16 (x16 (x16 (x1 (x1 (x1 (x1 (x1 (x1 (x1 (x1 (x1 (x1 (xh))))))))))))))))))) rfl
theorem mw_221 : (Jvm.Cond.fieldLink "ScaleShop$Law" (20 : Nat) "ScaleShop$Law" "triangle" "LScaleShop$Row;") ∈ ws0 := zm (tb_1 (x16 (x16 (x16 (x16 (x16 (x16 (x16 (x1 (x1 (x1 (x1 (x1 (x1 (x1 (x1 (x1 (x1 (x1 (xh)))))))))))))))))))) rfl
theorem mw_222 : (Jvm.Cond.fieldLink "ScaleShop$Law" (23 : Nat) "ScaleShop$Law" "way" "LScaleShop$Row;") ∈ ws0 := zm (tb_1 (x16 (x16 (x16 (x16 (x16 (x16 (x16 (x1 (x1 (x1 (x1 (x1 (x1 (x1 (x1 (x1 (x1 (x1 (x1 (xh))))))))))))))))))))) rfl
theorem mw_223 : (Jvm.Cond.fieldLink "ScaleShop$Law" (29 : Nat) "ScaleShop$Law" "reach" "LScaleShop$Box;") ∈ ws0 := zm (tb_1 (x16 (x16 (x16 (x16 (x16 (x16 (x16 (x1 (x1 (x1 (x1 (x1 (x1 (x1 (x1 (x1 (x1 (x1 (x1 (x1 (xh)))))))))))))))))))))) rfl
theorem mw_224 : (Jvm.Cond.fieldLink "ScaleShop$Law" (33 : Nat) "ScaleShop$Law" "otherBox" "LScaleShop$Box;") ∈ ws0 := zm (tb_1 (x16 (x16 (x16 (x16 (x16 (x16 (x16 (x1 (x1 (x1 (x1 (x1 (x1 (x1 (x1 (x1 (x1 (x1 (x1 (x1 (x1 (xh))))))))))))))))))))))) rfl
theorem mw_225 : (Jvm.Cond.fieldLink "ScaleShop$Law" (36 : Nat) "ScaleShop$Law" "areas" "[I") ∈ ws0 := zm (tb_1 (x16 (x16 (x16 (x16 (x16 (x16 (x16 (x1 (x1 (x1 (x1 (x1 (x1 (x1 (x1 (x1 (x1 (x1 (x1 (x1 (x1 (x1 (xh)))))))))))))))))))))))) rfl
theorem mw_239 : (Jvm.Cond.classLink "ScaleShop" (23 : Nat) "ScaleShop$Roads") ∈ ws0 := zm (tb_1 (x16 (x16 (x16 (x16 (x16 (x16 (x16 (x16 (x1 (x1 (x1 (x1 (x1 (x1 (x1 (x1 (x1 (x1 (x1 (x1 (x1 (xh))))))))))))))))))))))) rfl
theorem mw_240 : (Jvm.Cond.instantiable "ScaleShop$Roads" (6 : Nat)) ∈ ws0 := zm (tb_1 (x16 (x16 (x16 (x16 (x16 (x16 (x16 (x16 (x1 (x1 (x1 (x1 (x1 (x1 (x1 (x1 (x1 (x1 (x1 (x1 (x1 (x1 (xh)))))))))))))))))))))))) rfl
theorem mw_241 : (Jvm.Cond.methodLink "ScaleShop" (25 : Nat) ({ cls := "ScaleShop$Roads", name := "<init>", desc := "()V" } : Jvm.MethodName)) ∈ ws0 := zm (tb_1 (x16 (x16 (x16 (x16 (x16 (x16 (x16 (x16 (x1 (x1 (x1 (x1 (x1 (x1 (x1 (x1 (x1 (x1 (x1 (x1 (x1 (x1 (x1 (xh))))))))))))))))))))))))) rfl
theorem mw_242 : (Jvm.Cond.instanceMethod ({ cls := "ScaleShop$Roads", name := "<init>", desc := "()V" } : Jvm.MethodName)) ∈ ws0 := zm (tb_1 (x16 (x16 (x16 (x16 (x16 (x16 (x16 (x16 (x16 (xh))))))))))) rfl
theorem mc_yX6_init : (Cond.code yX6_init cX6_init 1 none) ∈ ws0 := zm (tb_1 (x16 (x16 (x16 (x16 (x16 (x16 (x16 (x16 (x16 (x1 (xh)))))))))))) rfl
theorem mw_244 : (Jvm.Cond.methodLink "ScaleShop$Roads" (3 : Nat) ({ cls := "java/lang/Object", name := "<init>", desc := "()V" } : Jvm.MethodName)) ∈ ws0 := zm (tb_1 (x16 (x16 (x16 (x16 (x16 (x16 (x16 (x16 (x16 (x1 (x1 (xh))))))))))))) rfl
theorem mw_245 : (Jvm.Cond.classLink "ScaleShop$Roads" (9 : Nat) "ScaleShop$Feature") ∈ ws0 := zm (tb_1 (x16 (x16 (x16 (x16 (x16 (x16 (x16 (x16 (x16 (x1 (x1 (x1 (xh)))))))))))))) rfl
theorem mw_246 : (Jvm.Cond.fieldLink "ScaleShop$Roads" (11 : Nat) "ScaleShop$Roads" "roads" "[LScaleShop$Feature;") ∈ ws0 := zm (tb_1 (x16 (x16 (x16 (x16 (x16 (x16 (x16 (x16 (x16 (x1 (x1 (x1 (x1 (xh))))))))))))))) rfl
theorem mw_247 : (Jvm.Cond.fieldLink "ScaleShop$Roads" (17 : Nat) "ScaleShop$Roads" "weights" "[I") ∈ ws0 := zm (tb_1 (x16 (x16 (x16 (x16 (x16 (x16 (x16 (x16 (x16 (x1 (x1 (x1 (x1 (x1 (xh)))))))))))))))) rfl
theorem mw_248 : (Jvm.Cond.fieldLink "ScaleShop$Roads" (21 : Nat) "ScaleShop$Roads" "endX" "[I") ∈ ws0 := zm (tb_1 (x16 (x16 (x16 (x16 (x16 (x16 (x16 (x16 (x16 (x1 (x1 (x1 (x1 (x1 (x1 (xh))))))))))))))))) rfl
theorem mw_249 : (Jvm.Cond.fieldLink "ScaleShop$Roads" (24 : Nat) "ScaleShop$Roads" "endY" "[I") ∈ ws0 := zm (tb_1 (x16 (x16 (x16 (x16 (x16 (x16 (x16 (x16 (x16 (x1 (x1 (x1 (x1 (x1 (x1 (x1 (xh)))))))))))))))))) rfl
theorem mw_250 : (Jvm.Cond.fieldLink "ScaleShop$Roads" (27 : Nat) "ScaleShop$Roads" "groups" "[I") ∈ ws0 := zm (tb_1 (x16 (x16 (x16 (x16 (x16 (x16 (x16 (x16 (x16 (x1 (x1 (x1 (x1 (x1 (x1 (x1 (x1 (xh))))))))))))))))))) rfl
theorem mw_251 : (Jvm.Cond.fieldLink "ScaleShop$Roads" (30 : Nat) "ScaleShop$Roads" "n" "I") ∈ ws0 := zm (tb_1 (x16 (x16 (x16 (x16 (x16 (x16 (x16 (x16 (x16 (x1 (x1 (x1 (x1 (x1 (x1 (x1 (x1 (x1 (xh)))))))))))))))))))) rfl
theorem mw_265 : (Jvm.Cond.classLink "ScaleShop" (30 : Nat) "ScaleShop$Box") ∈ ws0 := zm (tb_1 (x16 (x16 (x16 (x16 (x16 (x16 (x16 (x16 (x16 (x16 (x1 (x1 (x1 (x1 (x1 (x1 (x1 (xh))))))))))))))))))) rfl
theorem mw_266 : (Jvm.Cond.methodLink "ScaleShop" (32 : Nat) ({ cls := "ScaleShop$Box", name := "<init>", desc := "()V" } : Jvm.MethodName)) ∈ ws0 := zm (tb_1 (x16 (x16 (x16 (x16 (x16 (x16 (x16 (x16 (x16 (x16 (x1 (x1 (x1 (x1 (x1 (x1 (x1 (x1 (xh)))))))))))))))))))) rfl
theorem mw_267 : (Jvm.Cond.classLink "ScaleShop" (40 : Nat) "ScaleShop$Fraction") ∈ ws0 := zm (tb_1 (x16 (x16 (x16 (x16 (x16 (x16 (x16 (x16 (x16 (x16 (x1 (x1 (x1 (x1 (x1 (x1 (x1 (x1 (x1 (xh))))))))))))))))))))) rfl
theorem mw_268 : (Jvm.Cond.instantiable "ScaleShop$Fraction" (2 : Nat)) ∈ ws0 := zm (tb_1 (x16 (x16 (x16 (x16 (x16 (x16 (x16 (x16 (x16 (x16 (x1 (x1 (x1 (x1 (x1 (x1 (x1 (x1 (x1 (x1 (xh)))))))))))))))))))))) rfl
theorem mw_269 : (Jvm.Cond.methodLink "ScaleShop" (42 : Nat) ({ cls := "ScaleShop$Fraction", name := "<init>", desc := "()V" } : Jvm.MethodName)) ∈ ws0 := zm (tb_1 (x16 (x16 (x16 (x16 (x16 (x16 (x16 (x16 (x16 (x16 (x1 (x1 (x1 (x1 (x1 (x1 (x1 (x1 (x1 (x1 (x1 (xh))))))))))))))))))))))) rfl
theorem mw_270 : (Jvm.Cond.instanceMethod ({ cls := "ScaleShop$Fraction", name := "<init>", desc := "()V" } : Jvm.MethodName)) ∈ ws0 := zm (tb_1 (x16 (x16 (x16 (x16 (x16 (x16 (x16 (x16 (x16 (x16 (x1 (x1 (x1 (x1 (x1 (x1 (x1 (x1 (x1 (x1 (x1 (x1 (xh)))))))))))))))))))))))) rfl
theorem mc_yX3_init : (Cond.code yX3_init cX3_init 1 none) ∈ ws0 := zm (tb_1 (x16 (x16 (x16 (x16 (x16 (x16 (x16 (x16 (x16 (x16 (x1 (x1 (x1 (x1 (x1 (x1 (x1 (x1 (x1 (x1 (x1 (x1 (x1 (xh))))))))))))))))))))))))) rfl
theorem mw_272 : (Jvm.Cond.methodLink "ScaleShop$Fraction" (1 : Nat) ({ cls := "java/lang/Object", name := "<init>", desc := "()V" } : Jvm.MethodName)) ∈ ws0 := zm (tb_1 (x16 (x16 (x16 (x16 (x16 (x16 (x16 (x16 (x16 (x16 (x1 (x1 (x1 (x1 (x1 (x1 (x1 (x1 (x1 (x1 (x1 (x1 (x1 (x1 (xh)))))))))))))))))))))))))) rfl
theorem mw_273 : (Jvm.Cond.fieldLink "ScaleShop$Fraction" (7 : Nat) "ScaleShop$Fraction" "over" "J") ∈ ws0 := zm (tb_1 (x16 (x16 (x16 (x16 (x16 (x16 (x16 (x16 (x16 (x16 (x1 (x1 (x1 (x1 (x1 (x1 (x1 (x1 (x1 (x1 (x1 (x1 (x1 (x1 (x1 (xh))))))))))))))))))))))))))) rfl
theorem mw_274 : (Jvm.Cond.fieldLink "ScaleShop" (323 : Nat) "ScaleShop$Fraction" "over" "J") ∈ ws0 := zm (tb_1 (x16 (x16 (x16 (x16 (x16 (x16 (x16 (x16 (x16 (x16 (x16 (xh))))))))))))) rfl
theorem mw_275 : (Jvm.Cond.fieldLink "ScaleShop$Fraction" (13 : Nat) "ScaleShop$Fraction" "under" "J") ∈ ws0 := zm (tb_1 (x16 (x16 (x16 (x16 (x16 (x16 (x16 (x16 (x16 (x16 (x16 (x1 (xh)))))))))))))) rfl
theorem mw_276 : (Jvm.Cond.fieldLink "ScaleShop" (327 : Nat) "ScaleShop$Fraction" "under" "J") ∈ ws0 := zm (tb_1 (x16 (x16 (x16 (x16 (x16 (x16 (x16 (x16 (x16 (x16 (x16 (x1 (x1 (xh))))))))))))))) rfl
theorem mw_282 : (Jvm.Cond.classLink "ScaleShop" (54 : Nat) "java/util/ArrayList") ∈ ws0 := zm (tb_1 (x16 (x16 (x16 (x16 (x16 (x16 (x16 (x16 (x16 (x16 (x16 (x1 (x1 (x1 (x1 (x1 (x1 (x1 (x1 (xh))))))))))))))))))))) rfl
theorem mw_283 : (Jvm.Cond.instantiable "java/util/ArrayList" (3 : Nat)) ∈ ws0 := zm (tb_1 (x16 (x16 (x16 (x16 (x16 (x16 (x16 (x16 (x16 (x16 (x16 (x1 (x1 (x1 (x1 (x1 (x1 (x1 (x1 (x1 (xh)))))))))))))))))))))) rfl
theorem mw_284 : (Jvm.Cond.methodLink "ScaleShop" (56 : Nat) ({ cls := "java/util/ArrayList", name := "<init>", desc := "()V" } : Jvm.MethodName)) ∈ ws0 := zm (tb_1 (x16 (x16 (x16 (x16 (x16 (x16 (x16 (x16 (x16 (x16 (x16 (x1 (x1 (x1 (x1 (x1 (x1 (x1 (x1 (x1 (x1 (xh))))))))))))))))))))))) rfl
theorem mw_285 : (Jvm.Cond.instanceMethod ({ cls := "java/util/ArrayList", name := "<init>", desc := "()V" } : Jvm.MethodName)) ∈ ws0 := zm (tb_1 (x16 (x16 (x16 (x16 (x16 (x16 (x16 (x16 (x16 (x16 (x16 (x1 (x1 (x1 (x1 (x1 (x1 (x1 (x1 (x1 (x1 (x1 (xh)))))))))))))))))))))))) rfl
theorem mc_yJx4a65c_init_da8c8 : (Cond.code yJx4a65c_init_da8c8 cJx4a65c_init_da8c8 1 none) ∈ ws0 := zm (tb_1 (x16 (x16 (x16 (x16 (x16 (x16 (x16 (x16 (x16 (x16 (x16 (x1 (x1 (x1 (x1 (x1 (x1 (x1 (x1 (x1 (x1 (x1 (x1 (xh))))))))))))))))))))))))) rfl
theorem mw_287 : (Jvm.Cond.methodLink "java/util/ArrayList" (1 : Nat) ({ cls := "java/util/AbstractList", name := "<init>", desc := "()V" } : Jvm.MethodName)) ∈ ws0 := zm (tb_1 (x16 (x16 (x16 (x16 (x16 (x16 (x16 (x16 (x16 (x16 (x16 (x1 (x1 (x1 (x1 (x1 (x1 (x1 (x1 (x1 (x1 (x1 (x1 (x1 (xh)))))))))))))))))))))))))) rfl
theorem mw_288 : (Jvm.Cond.instanceMethod ({ cls := "java/util/AbstractList", name := "<init>", desc := "()V" } : Jvm.MethodName)) ∈ ws0 := zm (tb_1 (x16 (x16 (x16 (x16 (x16 (x16 (x16 (x16 (x16 (x16 (x16 (x1 (x1 (x1 (x1 (x1 (x1 (x1 (x1 (x1 (x1 (x1 (x1 (x1 (x1 (xh))))))))))))))))))))))))))) rfl
theorem mc_yJxc12de_init_da8c8 : (Cond.code yJxc12de_init_da8c8 cJxc12de_init_da8c8 1 none) ∈ ws0 := zm (tb_1 (x16 (x16 (x16 (x16 (x16 (x16 (x16 (x16 (x16 (x16 (x16 (x1 (x1 (x1 (x1 (x1 (x1 (x1 (x1 (x1 (x1 (x1 (x1 (x1 (x1 (x1 (xh)))))))))))))))))))))))))))) rfl
theorem mw_290 : (Jvm.Cond.methodLink "java/util/AbstractList" (1 : Nat) ({ cls := "java/util/AbstractCollection", name := "<init>", desc := "()V" } : Jvm.MethodName)) ∈ ws0 := zm (tb_1 (x16 (x16 (x16 (x16 (x16 (x16 (x16 (x16 (x16 (x16 (x16 (x16 (xh)))))))))))))) rfl
theorem mw_291 : (Jvm.Cond.instanceMethod ({ cls := "java/util/AbstractCollection", name := "<init>", desc := "()V" } : Jvm.MethodName)) ∈ ws0 := zm (tb_1 (x16 (x16 (x16 (x16 (x16 (x16 (x16 (x16 (x16 (x16 (x16 (x16 (x1 (xh))))))))))))))) rfl
theorem mc_yJxa1e45_init_da8c8 : (Cond.code yJxa1e45_init_da8c8 cJxa1e45_init_da8c8 1 none) ∈ ws0 := zm (tb_1 (x16 (x16 (x16 (x16 (x16 (x16 (x16 (x16 (x16 (x16 (x16 (x16 (x1 (x1 (xh)))))))))))))))) rfl
theorem mw_293 : (Jvm.Cond.methodLink "java/util/AbstractCollection" (1 : Nat) ({ cls := "java/lang/Object", name := "<init>", desc := "()V" } : Jvm.MethodName)) ∈ ws0 := zm (tb_1 (x16 (x16 (x16 (x16 (x16 (x16 (x16 (x16 (x16 (x16 (x16 (x16 (x1 (x1 (x1 (xh))))))))))))))))) rfl
theorem mw_294 : (Jvm.Cond.fieldLink "java/util/ArrayList" (39 : Nat) "java/util/ArrayList" "DEFAULTCAPACITY_EMPTY_ELEMENTDATA" "[Ljava/lang/Object;") ∈ ws0 := zm (tb_1 (x16 (x16 (x16 (x16 (x16 (x16 (x16 (x16 (x16 (x16 (x16 (x16 (x1 (x1 (x1 (x1 (xh)))))))))))))))))) rfl
theorem mw_296 : (Jvm.Cond.fieldLink "java/util/ArrayList" (9 : Nat) "java/util/ArrayList" "elementData" "[Ljava/lang/Object;") ∈ ws0 := zm (tb_1 (x16 (x16 (x16 (x16 (x16 (x16 (x16 (x16 (x16 (x16 (x16 (x16 (x1 (x1 (x1 (x1 (x1 (x1 (xh)))))))))))))))))))) rfl
theorem mw_297 : (Jvm.Cond.fieldLink "java/util/ArrayList" (48 : Nat) "java/util/ArrayList" "size" "I") ∈ ws0 := zm (tb_1 (x16 (x16 (x16 (x16 (x16 (x16 (x16 (x16 (x16 (x16 (x16 (x16 (x1 (x1 (x1 (x1 (x1 (x1 (x1 (xh))))))))))))))))))))) rfl
theorem mw_298 : (Jvm.Cond.fieldLink "java/util/AbstractList" (7 : Nat) "java/util/AbstractList" "modCount" "I") ∈ ws0 := zm (tb_1 (x16 (x16 (x16 (x16 (x16 (x16 (x16 (x16 (x16 (x16 (x16 (x16 (x1 (x1 (x1 (x1 (x1 (x1 (x1 (x1 (xh)))))))))))))))))))))) rfl
theorem mw_299 : (Jvm.Cond.fieldLink "java/util/ArrayList" (63 : Nat) "java/util/ArrayList" "modCount" "I") ∈ ws0 := zm (tb_1 (x16 (x16 (x16 (x16 (x16 (x16 (x16 (x16 (x16 (x16 (x16 (x16 (x1 (x1 (x1 (x1 (x1 (x1 (x1 (x1 (x1 (xh))))))))))))))))))))))) rfl
theorem mw_308 : (Jvm.Cond.arrayClass Jvm.ClassFile.FieldType.boolean) ∈ ws0 := zm (tb_1 (x16 (x16 (x16 (x16 (x16 (x16 (x16 (x16 (x16 (x16 (x16 (x16 (x16 (x1 (x1 (xh))))))))))))))))) rfl
theorem mw_309 : (Jvm.Cond.fieldLink "ScaleShop" (12 : Nat) "ScaleShop" "sheet" "LScaleShop$Sheet;") ∈ ws0 := zm (tb_1 (x16 (x16 (x16 (x16 (x16 (x16 (x16 (x16 (x16 (x16 (x16 (x16 (x16 (x1 (x1 (x1 (xh)))))))))))))))))) rfl
theorem mw_310 : (Jvm.Cond.fieldLink "ScaleShop" (19 : Nat) "ScaleShop" "law" "LScaleShop$Law;") ∈ ws0 := zm (tb_1 (x16 (x16 (x16 (x16 (x16 (x16 (x16 (x16 (x16 (x16 (x16 (x16 (x16 (x1 (x1 (x1 (x1 (xh))))))))))))))))))) rfl
theorem mw_311 : (Jvm.Cond.fieldLink "ScaleShop" (26 : Nat) "ScaleShop" "roads" "LScaleShop$Roads;") ∈ ws0 := zm (tb_1 (x16 (x16 (x16 (x16 (x16 (x16 (x16 (x16 (x16 (x16 (x16 (x16 (x16 (x1 (x1 (x1 (x1 (x1 (xh)))))))))))))))))))) rfl
theorem mw_312 : (Jvm.Cond.fieldLink "ScaleShop" (33 : Nat) "ScaleShop" "box" "LScaleShop$Box;") ∈ ws0 := zm (tb_1 (x16 (x16 (x16 (x16 (x16 (x16 (x16 (x16 (x16 (x16 (x16 (x16 (x16 (x1 (x1 (x1 (x1 (x1 (x1 (xh))))))))))))))))))))) rfl
theorem mw_313 : (Jvm.Cond.fieldLink "ScaleShop" (37 : Nat) "ScaleShop" "otherBox" "LScaleShop$Box;") ∈ ws0 := zm (tb_1 (x16 (x16 (x16 (x16 (x16 (x16 (x16 (x16 (x16 (x16 (x16 (x16 (x16 (x1 (x1 (x1 (x1 (x1 (x1 (x1 (xh)))))))))))))))))))))) rfl
theorem mw_314 : (Jvm.Cond.fieldLink "ScaleShop" (43 : Nat) "ScaleShop" "distance" "LScaleShop$Fraction;") ∈ ws0 := zm (tb_1 (x16 (x16 (x16 (x16 (x16 (x16 (x16 (x16 (x16 (x16 (x16 (x16 (x16 (x1 (x1 (x1 (x1 (x1 (x1 (x1 (x1 (xh))))))))))))))))))))))) rfl
theorem mw_315 : (Jvm.Cond.fieldLink "ScaleShop" (47 : Nat) "ScaleShop" "farthest" "LScaleShop$Fraction;") ∈ ws0 := zm (tb_1 (x16 (x16 (x16 (x16 (x16 (x16 (x16 (x16 (x16 (x16 (x16 (x16 (x16 (x1 (x1 (x1 (x1 (x1 (x1 (x1 (x1 (x1 (xh)))))))))))))))))))))))) rfl
theorem mw_316 : (Jvm.Cond.fieldLink "ScaleShop" (50 : Nat) "ScaleShop" "leaves" "[Z") ∈ ws0 := zm (tb_1 (x16 (x16 (x16 (x16 (x16 (x16 (x16 (x16 (x16 (x16 (x16 (x16 (x16 (x1 (x1 (x1 (x1 (x1 (x1 (x1 (x1 (x1 (x1 (xh))))))))))))))))))))))))) rfl
theorem mw_317 : (Jvm.Cond.fieldLink "ScaleShop" (57 : Nat) "ScaleShop" "steps" "Ljava/util/ArrayList;") ∈ ws0 := zm (tb_1 (x16 (x16 (x16 (x16 (x16 (x16 (x16 (x16 (x16 (x16 (x16 (x16 (x16 (x1 (x1 (x1 (x1 (x1 (x1 (x1 (x1 (x1 (x1 (x1 (xh)))))))))))))))))))))))))) rfl
theorem mw_318 : (Jvm.Cond.fieldLink "ScaleShop" (61 : Nat) "ScaleShop" "doneSteps" "I") ∈ ws0 := zm (tb_1 (x16 (x16 (x16 (x16 (x16 (x16 (x16 (x16 (x16 (x16 (x16 (x16 (x16 (x1 (x1 (x1 (x1 (x1 (x1 (x1 (x1 (x1 (x1 (x1 (x1 (xh))))))))))))))))))))))))))) rfl
theorem mw_319 : (Jvm.Cond.fieldLink "ScaleShop" (65 : Nat) "ScaleShop" "sealedSteps" "I") ∈ ws0 := zm (tb_1 (x16 (x16 (x16 (x16 (x16 (x16 (x16 (x16 (x16 (x16 (x16 (x16 (x16 (x1 (x1 (x1 (x1 (x1 (x1 (x1 (x1 (x1 (x1 (x1 (x1 (x1 (xh)))))))))))))))))))))))))))) rfl
theorem mw_320 : (Jvm.Cond.fieldLink "ScaleShop" (68 : Nat) "ScaleShop" "unlawful" "I") ∈ ws0 := zm (tb_1 (x16 (x16 (x16 (x16 (x16 (x16 (x16 (x16 (x16 (x16 (x16 (x16 (x16 (x1 (x1 (x1 (x1 (x1 (x1 (x1 (x1 (x1 (x1 (x1 (x1 (x1 (x1 (xh))))))))))))))))))))))))))))) rfl
theorem mw_321 : (Jvm.Cond.fieldLink "ScaleShop" (71 : Nat) "ScaleShop" "status" "I") ∈ ws0 := zm (tb_1 (x16 (x16 (x16 (x16 (x16 (x16 (x16 (x16 (x16 (x16 (x16 (x16 (x16 (x1 (x1 (x1 (x1 (x1 (x1 (x1 (x1 (x1 (x1 (x1 (x1 (x1 (x1 (x1 (xh)))))))))))))))))))))))))))))) rfl
theorem mw_349 : (Jvm.Cond.methodLink "ScaleShopLaw" (13 : Nat) ({ cls := "ScaleShop", name := "feature", desc := "(IIII)I" } : Jvm.MethodName)) ∈ ws0 := zm (tb_2 (x1 (x1 (x1 (x1 (x1 (x1 (x1 (x1 (x1 (x1 (x1 (xh))))))))))))) rfl
theorem mw_350 : (Jvm.Cond.instanceMethod ({ cls := "ScaleShop", name := "feature", desc := "(IIII)I" } : Jvm.MethodName)) ∈ ws0 := zm (tb_2 (x1 (x1 (x1 (x1 (x1 (x1 (x1 (x1 (x1 (x1 (x1 (x1 (xh)))))))))))))) rfl
theorem mw_351 : (Jvm.Cond.selects "ScaleShop" ({ cls := "ScaleShop", name := "feature", desc := "(IIII)I" } : Jvm.MethodName) ({ cls := "ScaleShop", name := "feature", desc := "(IIII)I" } : Jvm.MethodName)) ∈ ws0 := zm (tb_2 (x1 (x1 (x1 (x1 (x1 (x1 (x1 (x1 (x1 (x1 (x1 (x1 (x1 (xh))))))))))))))) rfl
theorem mc_yX10_feature : (Cond.code yX10_feature cX10_feature 6 (some .int)) ∈ ws0 := zm (tb_2 (x1 (x1 (x1 (x1 (x1 (x1 (x1 (x1 (x1 (x1 (x1 (x1 (x1 (x1 (xh)))))))))))))))) rfl
theorem mw_353 : (Jvm.Cond.methodLink "ScaleShop" (74 : Nat) ({ cls := "ScaleShop", name := "isWithin", desc := "(III)Z" } : Jvm.MethodName)) ∈ ws0 := zm (tb_2 (x1 (x1 (x1 (x1 (x1 (x1 (x1 (x1 (x1 (x1 (x1 (x1 (x1 (x1 (x1 (xh))))))))))))))))) rfl
theorem mw_354 : (Jvm.Cond.static ({ cls := "ScaleShop", name := "isWithin", desc := "(III)Z" } : Jvm.MethodName)) ∈ ws0 := zm (tb_2 (x16 (xh))) rfl
theorem mc_yX10_isWithin : (Cond.code yX10_isWithin cX10_isWithin 3 (some .boolean)) ∈ ws0 := zm (tb_2 (x16 (x1 (xh)))) rfl
theorem mw_356 : (Jvm.Cond.methodLink "ScaleShop" (78 : Nat) ({ cls := "ScaleShop", name := "refuse", desc := "(I)I" } : Jvm.MethodName)) ∈ ws0 := zm (tb_2 (x16 (x1 (x1 (xh))))) rfl
theorem mw_358 : (Jvm.Cond.instanceMethod ({ cls := "ScaleShop", name := "refuse", desc := "(I)I" } : Jvm.MethodName)) ∈ ws0 := zm (tb_2 (x16 (x1 (x1 (x1 (x1 (xh))))))) rfl
theorem mc_yX10_refuse : (Cond.code yX10_refuse cX10_refuse 2 (some .int)) ∈ ws0 := zm (tb_2 (x16 (x1 (x1 (x1 (x1 (x1 (xh)))))))) rfl
theorem mw_360 : (Jvm.Cond.methodLink "ScaleShop" (82 : Nat) ({ cls := "ScaleShop$Sheet", name := "isFull", desc := "()Z" } : Jvm.MethodName)) ∈ ws0 := zm (tb_2 (x16 (x1 (x1 (x1 (x1 (x1 (x1 (xh))))))))) rfl
theorem mw_361 : (Jvm.Cond.instanceMethod ({ cls := "ScaleShop$Sheet", name := "isFull", desc := "()Z" } : Jvm.MethodName)) ∈ ws0 := zm (tb_2 (x16 (x1 (x1 (x1 (x1 (x1 (x1 (x1 (xh)))))))))) rfl
theorem mw_362 : (Jvm.Cond.selects "ScaleShop$Sheet" ({ cls := "ScaleShop$Sheet", name := "isFull", desc := "()Z" } : Jvm.MethodName) ({ cls := "ScaleShop$Sheet", name := "isFull", desc := "()Z" } : Jvm.MethodName)) ∈ ws0 := zm (tb_2 (x16 (x1 (x1 (x1 (x1 (x1 (x1 (x1 (x1 (xh))))))))))) rfl
theorem mc_yX8_isFull : (Cond.code yX8_isFull cX8_isFull 1 (some .boolean)) ∈ ws0 := zm (tb_2 (x16 (x1 (x1 (x1 (x1 (x1 (x1 (x1 (x1 (x1 (xh)))))))))))) rfl
theorem mw_364 : (Jvm.Cond.classLink "ScaleShop" (86 : Nat) "ScaleShop$Feature") ∈ ws0 := zm (tb_2 (x16 (x1 (x1 (x1 (x1 (x1 (x1 (x1 (x1 (x1 (x1 (xh))))))))))))) rfl
theorem mw_365 : (Jvm.Cond.instantiable "ScaleShop$Feature" (8 : Nat)) ∈ ws0 := zm (tb_2 (x16 (x1 (x1 (x1 (x1 (x1 (x1 (x1 (x1 (x1 (x1 (x1 (xh)))))))))))))) rfl
theorem mw_366 : (Jvm.Cond.methodLink "ScaleShop" (88 : Nat) ({ cls := "ScaleShop$Feature", name := "<init>", desc := "(IIII)V" } : Jvm.MethodName)) ∈ ws0 := zm (tb_2 (x16 (x1 (x1 (x1 (x1 (x1 (x1 (x1 (x1 (x1 (x1 (x1 (x1 (xh))))))))))))))) rfl
theorem mw_367 : (Jvm.Cond.instanceMethod ({ cls := "ScaleShop$Feature", name := "<init>", desc := "(IIII)V" } : Jvm.MethodName)) ∈ ws0 := zm (tb_2 (x16 (x1 (x1 (x1 (x1 (x1 (x1 (x1 (x1 (x1 (x1 (x1 (x1 (x1 (xh)))))))))))))))) rfl
theorem mc_yX2_init : (Cond.code yX2_init cX2_init 5 none) ∈ ws0 := zm (tb_2 (x16 (x1 (x1 (x1 (x1 (x1 (x1 (x1 (x1 (x1 (x1 (x1 (x1 (x1 (x1 (xh))))))))))))))))) rfl
theorem mw_369 : (Jvm.Cond.methodLink "ScaleShop$Feature" (3 : Nat) ({ cls := "java/lang/Object", name := "<init>", desc := "()V" } : Jvm.MethodName)) ∈ ws0 := zm (tb_2 (x16 (x1 (x1 (x1 (x1 (x1 (x1 (x1 (x1 (x1 (x1 (x1 (x1 (x1 (x1 (x1 (xh)))))))))))))))))) rfl
theorem mw_370 : (Jvm.Cond.classLink "ScaleShop$Feature" (31 : Nat) "ScaleShop$Row") ∈ ws0 := zm (tb_2 (x16 (x16 (xh)))) rfl
theorem mw_371 : (Jvm.Cond.methodLink "ScaleShop$Feature" (33 : Nat) ({ cls := "ScaleShop$Row", name := "<init>", desc := "(IZ)V" } : Jvm.MethodName)) ∈ ws0 := zm (tb_2 (x16 (x16 (x1 (xh))))) rfl
theorem mw_372 : (Jvm.Cond.classLink "ScaleShop$Feature" (40 : Nat) "ScaleShop$Look") ∈ ws0 := zm (tb_2 (x16 (x16 (x1 (x1 (xh)))))) rfl
theorem mw_373 : (Jvm.Cond.instantiable "ScaleShop$Look" (6 : Nat)) ∈ ws0 := zm (tb_2 (x16 (x16 (x1 (x1 (x1 (xh))))))) rfl
theorem mw_374 : (Jvm.Cond.methodLink "ScaleShop$Feature" (42 : Nat) ({ cls := "ScaleShop$Look", name := "<init>", desc := "(I)V" } : Jvm.MethodName)) ∈ ws0 := zm (tb_2 (x16 (x16 (x1 (x1 (x1 (x1 (xh)))))))) rfl
theorem mw_375 : (Jvm.Cond.instanceMethod ({ cls := "ScaleShop$Look", name := "<init>", desc := "(I)V" } : Jvm.MethodName)) ∈ ws0 := zm (tb_2 (x16 (x16 (x1 (x1 (x1 (x1 (x1 (xh))))))))) rfl
theorem mc_yX5_init : (Cond.code yX5_init cX5_init 2 none) ∈ ws0 := zm (tb_2 (x16 (x16 (x1 (x1 (x1 (x1 (x1 (x1 (xh)))))))))) rfl
theorem mw_377 : (Jvm.Cond.methodLink "ScaleShop$Look" (3 : Nat) ({ cls := "java/lang/Object", name := "<init>", desc := "()V" } : Jvm.MethodName)) ∈ ws0 := zm (tb_2 (x16 (x16 (x1 (x1 (x1 (x1 (x1 (x1 (x1 (xh))))))))))) rfl
theorem mw_378 : (Jvm.Cond.fieldLink "ScaleShop$Look" (28 : Nat) "ScaleShop$Look" "kind" "I") ∈ ws0 := zm (tb_2 (x16 (x16 (x1 (x1 (x1 (x1 (x1 (x1 (x1 (x1 (xh)))))))))))) rfl
theorem mw_379 : (Jvm.Cond.fieldLink "ScaleShop$Feature" (48 : Nat) "ScaleShop$Look" "kind" "I") ∈ ws0 := zm (tb_2 (x16 (x16 (x1 (x1 (x1 (x1 (x1 (x1 (x1 (x1 (x1 (xh))))))))))))) rfl
theorem mw_380 : (Jvm.Cond.fieldLink "ScaleShop$Roads" (51 : Nat) "ScaleShop$Look" "kind" "I") ∈ ws0 := zm (tb_2 (x16 (x16 (x1 (x1 (x1 (x1 (x1 (x1 (x1 (x1 (x1 (x1 (xh)))))))))))))) rfl
theorem mw_381 : (Jvm.Cond.fieldLink "ScaleShop" (130 : Nat) "ScaleShop$Look" "kind" "I") ∈ ws0 := zm (tb_2 (x16 (x16 (x1 (x1 (x1 (x1 (x1 (x1 (x1 (x1 (x1 (x1 (x1 (xh))))))))))))))) rfl
theorem mw_382 : (Jvm.Cond.fieldLink "ScaleShop$Law" (117 : Nat) "ScaleShop$Look" "kind" "I") ∈ ws0 := zm (tb_2 (x16 (x16 (x1 (x1 (x1 (x1 (x1 (x1 (x1 (x1 (x1 (x1 (x1 (x1 (xh)))))))))))))))) rfl
theorem mw_383 : (Jvm.Cond.fieldLink "ScaleShop$Sheet" (48 : Nat) "ScaleShop$Look" "kind" "I") ∈ ws0 := zm (tb_2 (x16 (x16 (x1 (x1 (x1 (x1 (x1 (x1 (x1 (x1 (x1 (x1 (x1 (x1 (x1 (xh))))))))))))))))) rfl
theorem mw_384 : (Jvm.Cond.fieldLink "ScaleShop$Look" (9 : Nat) "ScaleShop$Look" "state" "I") ∈ ws0 := zm (tb_2 (x16 (x16 (x1 (x1 (x1 (x1 (x1 (x1 (x1 (x1 (x1 (x1 (x1 (x1 (x1 (x1 (xh)))))))))))))))))) rfl
theorem mw_385 : (Jvm.Cond.fieldLink "ScaleShop" (120 : Nat) "ScaleShop$Look" "state" "I") ∈ ws0 := zm (tb_2 (x16 (x16 (x1 (x1 (x1 (x1 (x1 (x1 (x1 (x1 (x1 (x1 (x1 (x1 (x1 (x1 (x1 (xh))))))))))))))))))) rfl
theorem mw_386 : (Jvm.Cond.fieldLink "ScaleShop$Feature" (64 : Nat) "ScaleShop$Look" "state" "I") ∈ ws0 := zm (tb_2 (x16 (x16 (x16 (xh))))) rfl
theorem mw_387 : (Jvm.Cond.fieldLink "ScaleShop$Sheet" (39 : Nat) "ScaleShop$Look" "state" "I") ∈ ws0 := zm (tb_2 (x16 (x16 (x16 (x1 (xh)))))) rfl
theorem mw_388 : (Jvm.Cond.fieldLink "ScaleShop$Look" (15 : Nat) "ScaleShop$Look" "row" "LScaleShop$Row;") ∈ ws0 := zm (tb_2 (x16 (x16 (x16 (x1 (x1 (xh))))))) rfl
theorem mw_389 : (Jvm.Cond.fieldLink "ScaleShop$Law" (46 : Nat) "ScaleShop$Look" "row" "LScaleShop$Row;") ∈ ws0 := zm (tb_2 (x16 (x16 (x16 (x1 (x1 (x1 (xh)))))))) rfl
theorem mw_390 : (Jvm.Cond.fieldLink "ScaleShop$Roads" (69 : Nat) "ScaleShop$Look" "row" "LScaleShop$Row;") ∈ ws0 := zm (tb_2 (x16 (x16 (x16 (x1 (x1 (x1 (x1 (xh))))))))) rfl
theorem mw_391 : (Jvm.Cond.fieldLink "ScaleShop" (103 : Nat) "ScaleShop$Look" "row" "LScaleShop$Row;") ∈ ws0 := zm (tb_2 (x16 (x16 (x16 (x1 (x1 (x1 (x1 (x1 (xh)))))))))) rfl
theorem mw_392 : (Jvm.Cond.fieldLink "ScaleShop$Feature" (51 : Nat) "ScaleShop$Look" "row" "LScaleShop$Row;") ∈ ws0 := zm (tb_2 (x16 (x16 (x16 (x1 (x1 (x1 (x1 (x1 (x1 (xh))))))))))) rfl
theorem mw_393 : (Jvm.Cond.fieldLink "ScaleShop$Sheet" (44 : Nat) "ScaleShop$Look" "row" "LScaleShop$Row;") ∈ ws0 := zm (tb_2 (x16 (x16 (x16 (x1 (x1 (x1 (x1 (x1 (x1 (x1 (xh)))))))))))) rfl
theorem mw_394 : (Jvm.Cond.fieldLink "ScaleShop$Look" (19 : Nat) "ScaleShop$Look" "goneBy" "I") ∈ ws0 := zm (tb_2 (x16 (x16 (x16 (x1 (x1 (x1 (x1 (x1 (x1 (x1 (x1 (xh))))))))))))) rfl
theorem mw_395 : (Jvm.Cond.fieldLink "ScaleShop$Feature" (67 : Nat) "ScaleShop$Look" "goneBy" "I") ∈ ws0 := zm (tb_2 (x16 (x16 (x16 (x1 (x1 (x1 (x1 (x1 (x1 (x1 (x1 (x1 (xh)))))))))))))) rfl
theorem mw_396 : (Jvm.Cond.fieldLink "ScaleShop" (342 : Nat) "ScaleShop$Look" "goneBy" "I") ∈ ws0 := zm (tb_2 (x16 (x16 (x16 (x1 (x1 (x1 (x1 (x1 (x1 (x1 (x1 (x1 (x1 (xh))))))))))))))) rfl
theorem mw_397 : (Jvm.Cond.fieldLink "ScaleShop$Look" (22 : Nat) "ScaleShop$Look" "joinedTo" "I") ∈ ws0 := zm (tb_2 (x16 (x16 (x16 (x1 (x1 (x1 (x1 (x1 (x1 (x1 (x1 (x1 (x1 (x1 (xh)))))))))))))))) rfl
theorem mw_398 : (Jvm.Cond.fieldLink "ScaleShop" (351 : Nat) "ScaleShop$Look" "joinedTo" "I") ∈ ws0 := zm (tb_2 (x16 (x16 (x16 (x1 (x1 (x1 (x1 (x1 (x1 (x1 (x1 (x1 (x1 (x1 (x1 (xh))))))))))))))))) rfl
theorem mw_399 : (Jvm.Cond.fieldLink "ScaleShop$Look" (25 : Nat) "ScaleShop$Look" "went" "I") ∈ ws0 := zm (tb_2 (x16 (x16 (x16 (x1 (x1 (x1 (x1 (x1 (x1 (x1 (x1 (x1 (x1 (x1 (x1 (x1 (xh)))))))))))))))))) rfl
theorem mw_400 : (Jvm.Cond.fieldLink "ScaleShop$Feature" (77 : Nat) "ScaleShop$Look" "went" "I") ∈ ws0 := zm (tb_2 (x16 (x16 (x16 (x1 (x1 (x1 (x1 (x1 (x1 (x1 (x1 (x1 (x1 (x1 (x1 (x1 (x1 (xh))))))))))))))))))) rfl
theorem mw_401 : (Jvm.Cond.fieldLink "ScaleShop" (299 : Nat) "ScaleShop$Look" "went" "I") ∈ ws0 := zm (tb_2 (x16 (x16 (x16 (x1 (x1 (x1 (x1 (x1 (x1 (x1 (x1 (x1 (x1 (x1 (x1 (x1 (x1 (x1 (xh)))))))))))))))))))) rfl
theorem mw_415 : (Jvm.Cond.fieldLink "ScaleShop$Feature" (22 : Nat) "ScaleShop$Feature" "rank" "I") ∈ ws0 := zm (tb_2 (x16 (x16 (x16 (x16 (x1 (x1 (x1 (x1 (x1 (x1 (x1 (x1 (x1 (x1 (x1 (x1 (x1 (xh))))))))))))))))))) rfl
theorem mw_416 : (Jvm.Cond.fieldLink "ScaleShop$Roads" (56 : Nat) "ScaleShop$Feature" "rank" "I") ∈ ws0 := zm (tb_2 (x16 (x16 (x16 (x16 (x1 (x1 (x1 (x1 (x1 (x1 (x1 (x1 (x1 (x1 (x1 (x1 (x1 (x1 (xh)))))))))))))))))))) rfl
theorem mw_417 : (Jvm.Cond.fieldLink "ScaleShop" (333 : Nat) "ScaleShop$Feature" "rank" "I") ∈ ws0 := zm (tb_2 (x16 (x16 (x16 (x16 (x1 (x1 (x1 (x1 (x1 (x1 (x1 (x1 (x1 (x1 (x1 (x1 (x1 (x1 (x1 (xh))))))))))))))))))))) rfl
theorem mw_418 : (Jvm.Cond.fieldLink "ScaleShop$Feature" (25 : Nat) "ScaleShop$Feature" "width" "I") ∈ ws0 := zm (tb_2 (x16 (x16 (x16 (x16 (x16 (xh))))))) rfl
theorem mw_419 : (Jvm.Cond.fieldLink "ScaleShop" (336 : Nat) "ScaleShop$Feature" "width" "I") ∈ ws0 := zm (tb_2 (x16 (x16 (x16 (x16 (x16 (x1 (xh)))))))) rfl
theorem mw_420 : (Jvm.Cond.fieldLink "ScaleShop$Feature" (28 : Nat) "ScaleShop$Feature" "town" "I") ∈ ws0 := zm (tb_2 (x16 (x16 (x16 (x16 (x16 (x1 (x1 (xh))))))))) rfl
theorem mw_421 : (Jvm.Cond.fieldLink "ScaleShop" (339 : Nat) "ScaleShop$Feature" "town" "I") ∈ ws0 := zm (tb_2 (x16 (x16 (x16 (x16 (x16 (x1 (x1 (x1 (xh)))))))))) rfl
theorem mw_422 : (Jvm.Cond.fieldLink "ScaleShop$Feature" (9 : Nat) "ScaleShop$Feature" "firstPart" "I") ∈ ws0 := zm (tb_2 (x16 (x16 (x16 (x16 (x16 (x1 (x1 (x1 (x1 (xh))))))))))) rfl
theorem mw_423 : (Jvm.Cond.fieldLink "ScaleShop" (345 : Nat) "ScaleShop$Feature" "firstPart" "I") ∈ ws0 := zm (tb_2 (x16 (x16 (x16 (x16 (x16 (x1 (x1 (x1 (x1 (x1 (xh)))))))))))) rfl
theorem mw_424 : (Jvm.Cond.fieldLink "ScaleShop$Feature" (15 : Nat) "ScaleShop$Feature" "secondPart" "I") ∈ ws0 := zm (tb_2 (x16 (x16 (x16 (x16 (x16 (x1 (x1 (x1 (x1 (x1 (x1 (xh))))))))))))) rfl
theorem mw_425 : (Jvm.Cond.fieldLink "ScaleShop" (348 : Nat) "ScaleShop$Feature" "secondPart" "I") ∈ ws0 := zm (tb_2 (x16 (x16 (x16 (x16 (x16 (x1 (x1 (x1 (x1 (x1 (x1 (x1 (xh)))))))))))))) rfl
theorem mw_426 : (Jvm.Cond.fieldLink "ScaleShop$Feature" (36 : Nat) "ScaleShop$Feature" "lost" "LScaleShop$Row;") ∈ ws0 := zm (tb_2 (x16 (x16 (x16 (x16 (x16 (x1 (x1 (x1 (x1 (x1 (x1 (x1 (x1 (xh))))))))))))))) rfl
theorem mw_427 : (Jvm.Cond.fieldLink "ScaleShop" (302 : Nat) "ScaleShop$Feature" "lost" "LScaleShop$Row;") ∈ ws0 := zm (tb_2 (x16 (x16 (x16 (x16 (x16 (x1 (x1 (x1 (x1 (x1 (x1 (x1 (x1 (x1 (xh)))))))))))))))) rfl
theorem mw_428 : (Jvm.Cond.fieldLink "ScaleShop$Change" (22 : Nat) "ScaleShop$Feature" "now" "LScaleShop$Look;") ∈ ws0 := zm (tb_2 (x16 (x16 (x16 (x16 (x16 (x1 (x1 (x1 (x1 (x1 (x1 (x1 (x1 (x1 (x1 (xh))))))))))))))))) rfl
theorem mw_429 : (Jvm.Cond.fieldLink "ScaleShop$Feature" (45 : Nat) "ScaleShop$Feature" "now" "LScaleShop$Look;") ∈ ws0 := zm (tb_2 (x16 (x16 (x16 (x16 (x16 (x1 (x1 (x1 (x1 (x1 (x1 (x1 (x1 (x1 (x1 (x1 (xh)))))))))))))))))) rfl
theorem mw_430 : (Jvm.Cond.fieldLink "ScaleShop$Law" (40 : Nat) "ScaleShop$Feature" "now" "LScaleShop$Look;") ∈ ws0 := zm (tb_2 (x16 (x16 (x16 (x16 (x16 (x1 (x1 (x1 (x1 (x1 (x1 (x1 (x1 (x1 (x1 (x1 (x1 (xh))))))))))))))))))) rfl
theorem mw_431 : (Jvm.Cond.fieldLink "ScaleShop$Step" (36 : Nat) "ScaleShop$Feature" "now" "LScaleShop$Look;") ∈ ws0 := zm (tb_2 (x16 (x16 (x16 (x16 (x16 (x1 (x1 (x1 (x1 (x1 (x1 (x1 (x1 (x1 (x1 (x1 (x1 (x1 (xh)))))))))))))))))))) rfl
theorem mw_432 : (Jvm.Cond.fieldLink "ScaleShop$Roads" (47 : Nat) "ScaleShop$Feature" "now" "LScaleShop$Look;") ∈ ws0 := zm (tb_2 (x16 (x16 (x16 (x16 (x16 (x1 (x1 (x1 (x1 (x1 (x1 (x1 (x1 (x1 (x1 (x1 (x1 (x1 (x1 (xh))))))))))))))))))))) rfl
theorem mw_433 : (Jvm.Cond.fieldLink "ScaleShop" (91 : Nat) "ScaleShop$Feature" "now" "LScaleShop$Look;") ∈ ws0 := zm (tb_2 (x16 (x16 (x16 (x16 (x16 (x1 (x1 (x1 (x1 (x1 (x1 (x1 (x1 (x1 (x1 (x1 (x1 (x1 (x1 (x1 (xh)))))))))))))))))))))) rfl
theorem mw_434 : (Jvm.Cond.fieldLink "ScaleShop$Sheet" (35 : Nat) "ScaleShop$Feature" "now" "LScaleShop$Look;") ∈ ws0 := zm (tb_2 (x16 (x16 (x16 (x16 (x16 (x16 (xh)))))))) rfl
theorem mw_435 : (Jvm.Cond.fieldLink "ScaleShop$Change" (13 : Nat) "ScaleShop$Feature" "former" "LScaleShop$Look;") ∈ ws0 := zm (tb_2 (x16 (x16 (x16 (x16 (x16 (x16 (x1 (xh))))))))) rfl
theorem mw_436 : (Jvm.Cond.fieldLink "ScaleShop$Feature" (18 : Nat) "ScaleShop$Feature" "former" "LScaleShop$Look;") ∈ ws0 := zm (tb_2 (x16 (x16 (x16 (x16 (x16 (x16 (x1 (x1 (xh)))))))))) rfl
theorem mw_437 : (Jvm.Cond.fieldLink "ScaleShop" (381 : Nat) "ScaleShop$Feature" "former" "LScaleShop$Look;") ∈ ws0 := zm (tb_2 (x16 (x16 (x16 (x16 (x16 (x16 (x1 (x1 (x1 (xh))))))))))) rfl
theorem mw_455 : (Jvm.Cond.classLink "ScaleShop" (95 : Nat) "ScaleShop$Row") ∈ ws0 := zm (tb_2 (x16 (x16 (x16 (x16 (x16 (x16 (x16 (x1 (x1 (x1 (x1 (x1 (xh)))))))))))))) rfl
theorem mw_456 : (Jvm.Cond.methodLink "ScaleShop" (97 : Nat) ({ cls := "ScaleShop", name := "mostCorners", desc := "(I)I" } : Jvm.MethodName)) ∈ ws0 := zm (tb_2 (x16 (x16 (x16 (x16 (x16 (x16 (x16 (x1 (x1 (x1 (x1 (x1 (x1 (xh))))))))))))))) rfl
theorem mw_457 : (Jvm.Cond.static ({ cls := "ScaleShop", name := "mostCorners", desc := "(I)I" } : Jvm.MethodName)) ∈ ws0 := zm (tb_2 (x16 (x16 (x16 (x16 (x16 (x16 (x16 (x1 (x1 (x1 (x1 (x1 (x1 (x1 (xh)))))))))))))))) rfl
theorem mc_yX10_mostCorners : (Cond.code yX10_mostCorners cX10_mostCorners 1 (some .int)) ∈ ws0 := zm (tb_2 (x16 (x16 (x16 (x16 (x16 (x16 (x16 (x1 (x1 (x1 (x1 (x1 (x1 (x1 (x1 (xh))))))))))))))))) rfl
theorem mw_459 : (Jvm.Cond.methodLink "ScaleShop" (100 : Nat) ({ cls := "ScaleShop$Row", name := "<init>", desc := "(IZ)V" } : Jvm.MethodName)) ∈ ws0 := zm (tb_2 (x16 (x16 (x16 (x16 (x16 (x16 (x16 (x1 (x1 (x1 (x1 (x1 (x1 (x1 (x1 (x1 (xh)))))))))))))))))) rfl
theorem mw_460 : (Jvm.Cond.methodLink "ScaleShop" (109 : Nat) ({ cls := "ScaleShop", name := "seal", desc := "()Z" } : Jvm.MethodName)) ∈ ws0 := zm (tb_2 (x16 (x16 (x16 (x16 (x16 (x16 (x16 (x1 (x1 (x1 (x1 (x1 (x1 (x1 (x1 (x1 (x1 (xh))))))))))))))))))) rfl
theorem mw_462 : (Jvm.Cond.instanceMethod ({ cls := "ScaleShop", name := "seal", desc := "()Z" } : Jvm.MethodName)) ∈ ws0 := zm (tb_2 (x16 (x16 (x16 (x16 (x16 (x16 (x16 (x1 (x1 (x1 (x1 (x1 (x1 (x1 (x1 (x1 (x1 (x1 (x1 (xh))))))))))))))))))))) rfl
theorem mc_yX10_seal : (Cond.code yX10_seal cX10_seal 1 (some .boolean)) ∈ ws0 := zm (tb_2 (x16 (x16 (x16 (x16 (x16 (x16 (x16 (x1 (x1 (x1 (x1 (x1 (x1 (x1 (x1 (x1 (x1 (x1 (x1 (x1 (xh)))))))))))))))))))))) rfl
theorem mw_464 : (Jvm.Cond.methodLink "ScaleShop" (372 : Nat) ({ cls := "ScaleShop", name := "forgetUndone", desc := "()V" } : Jvm.MethodName)) ∈ ws0 := zm (tb_2 (x16 (x16 (x16 (x16 (x16 (x16 (x16 (x1 (x1 (x1 (x1 (x1 (x1 (x1 (x1 (x1 (x1 (x1 (x1 (x1 (x1 (xh))))))))))))))))))))))) rfl
theorem mw_466 : (Jvm.Cond.instanceMethod ({ cls := "ScaleShop", name := "forgetUndone", desc := "()V" } : Jvm.MethodName)) ∈ ws0 := zm (tb_2 (x16 (x16 (x16 (x16 (x16 (x16 (x16 (x16 (xh)))))))))) rfl
theorem mc_yX10_forgetUndone : (Cond.code yX10_forgetUndone cX10_forgetUndone 2 none) ∈ ws0 := zm (tb_2 (x16 (x16 (x16 (x16 (x16 (x16 (x16 (x16 (x1 (xh))))))))))) rfl
theorem mw_468 : (Jvm.Cond.methodLink "ScaleShop" (244 : Nat) ({ cls := "java/util/ArrayList", name := "size", desc := "()I" } : Jvm.MethodName)) ∈ ws0 := zm (tb_2 (x16 (x16 (x16 (x16 (x16 (x16 (x16 (x16 (x1 (x1 (xh)))))))))))) rfl
theorem mw_469 : (Jvm.Cond.instanceMethod ({ cls := "java/util/ArrayList", name := "size", desc := "()I" } : Jvm.MethodName)) ∈ ws0 := zm (tb_2 (x16 (x16 (x16 (x16 (x16 (x16 (x16 (x16 (x1 (x1 (x1 (xh))))))))))))) rfl
theorem mw_470 : (Jvm.Cond.selects "java/util/ArrayList" ({ cls := "java/util/ArrayList", name := "size", desc := "()I" } : Jvm.MethodName) ({ cls := "java/util/ArrayList", name := "size", desc := "()I" } : Jvm.MethodName)) ∈ ws0 := zm (tb_2 (x16 (x16 (x16 (x16 (x16 (x16 (x16 (x16 (x1 (x1 (x1 (x1 (xh)))))))))))))) rfl
theorem mc_yJx4a65c_size_8abf5 : (Cond.code yJx4a65c_size_8abf5 cJx4a65c_size_8abf5 1 (some .int)) ∈ ws0 := zm (tb_2 (x16 (x16 (x16 (x16 (x16 (x16 (x16 (x16 (x1 (x1 (x1 (x1 (x1 (xh))))))))))))))) rfl
theorem mw_472 : (Jvm.Cond.methodLink "ScaleShop" (375 : Nat) ({ cls := "java/util/ArrayList", name := "remove", desc := "(I)Ljava/lang/Object;" } : Jvm.MethodName)) ∈ ws0 := zm (tb_2 (x16 (x16 (x16 (x16 (x16 (x16 (x16 (x16 (x1 (x1 (x1 (x1 (x1 (x1 (xh)))))))))))))))) rfl
theorem mw_473 : (Jvm.Cond.instanceMethod ({ cls := "java/util/ArrayList", name := "remove", desc := "(I)Ljava/lang/Object;" } : Jvm.MethodName)) ∈ ws0 := zm (tb_2 (x16 (x16 (x16 (x16 (x16 (x16 (x16 (x16 (x1 (x1 (x1 (x1 (x1 (x1 (x1 (xh))))))))))))))))) rfl
theorem mw_474 : (Jvm.Cond.selects "java/util/ArrayList" ({ cls := "java/util/ArrayList", name := "remove", desc := "(I)Ljava/lang/Object;" } : Jvm.MethodName) ({ cls := "java/util/ArrayList", name := "remove", desc := "(I)Ljava/lang/Object;" } : Jvm.MethodName)) ∈ ws0 := zm (tb_2 (x16 (x16 (x16 (x16 (x16 (x16 (x16 (x16 (x1 (x1 (x1 (x1 (x1 (x1 (x1 (x1 (xh)))))))))))))))))) rfl
theorem mc_yJx4a65c_remove_915e3 : (Cond.code yJx4a65c_remove_915e3 cJx4a65c_remove_915e3 4 (some (.object "java/lang/Object"))) ∈ ws0 := zm (tb_2 (x16 (x16 (x16 (x16 (x16 (x16 (x16 (x16 (x1 (x1 (x1 (x1 (x1 (x1 (x1 (x1 (x1 (xh))))))))))))))))))) rfl
theorem mw_476 : (Jvm.Cond.methodLink "java/util/ArrayList" (118 : Nat) ({ cls := "java/util/Objects", name := "checkIndex", desc := "(II)I" } : Jvm.MethodName)) ∈ ws0 := zm (tb_2 (x16 (x16 (x16 (x16 (x16 (x16 (x16 (x16 (x1 (x1 (x1 (x1 (x1 (x1 (x1 (x1 (x1 (x1 (xh)))))))))))))))))))) rfl
theorem mw_477 : (Jvm.Cond.static ({ cls := "java/util/Objects", name := "checkIndex", desc := "(II)I" } : Jvm.MethodName)) ∈ ws0 := zm (tb_2 (x16 (x16 (x16 (x16 (x16 (x16 (x16 (x16 (x1 (x1 (x1 (x1 (x1 (x1 (x1 (x1 (x1 (x1 (x1 (xh))))))))))))))))))))) rfl
theorem mc_yJ15_checkIndex_7cf53 : (Cond.code yJ15_checkIndex_7cf53 cJ15_checkIndex_7cf53 2 (some .int)) ∈ ws0 := zm (tb_2 (x16 (x16 (x16 (x16 (x16 (x16 (x16 (x16 (x1 (x1 (x1 (x1 (x1 (x1 (x1 (x1 (x1 (x1 (x1 (x1 (xh)))))))))))))))))))))) rfl
theorem mw_479 : (Jvm.Cond.methodLink "java/util/Objects" (105 : Nat) ({ cls := "jdk/internal/util/Preconditions", name := "checkIndex", desc := "(IILjava/util/function/BiFunction;)I" } : Jvm.MethodName)) ∈ ws0 := zm (tb_2 (x16 (x16 (x16 (x16 (x16 (x16 (x16 (x16 (x1 (x1 (x1 (x1 (x1 (x1 (x1 (x1 (x1 (x1 (x1 (x1 (x1 (xh))))))))))))))))))))))) rfl
theorem mw_480 : (Jvm.Cond.static ({ cls := "jdk/internal/util/Preconditions", name := "checkIndex", desc := "(IILjava/util/function/BiFunction;)I" } : Jvm.MethodName)) ∈ ws0 := zm (tb_2 (x16 (x16 (x16 (x16 (x16 (x16 (x16 (x16 (x1 (x1 (x1 (x1 (x1 (x1 (x1 (x1 (x1 (x1 (x1 (x1 (x1 (x1 (xh)))))))))))))))))))))))) rfl
theorem mc_yJ3_checkIndex_8e157 : (Cond.code yJ3_checkIndex_8e157 cJ3_checkIndex_8e157 3 (some .int)) ∈ ws0 := zm (tb_2 (x16 (x16 (x16 (x16 (x16 (x16 (x16 (x16 (x1 (x1 (x1 (x1 (x1 (x1 (x1 (x1 (x1 (x1 (x1 (x1 (x1 (x1 (x1 (xh))))))))))))))))))))))))) rfl
theorem mw_482 : (Jvm.Cond.methodLink "java/util/ArrayList" (144 : Nat) ({ cls := "java/util/ArrayList", name := "fastRemove", desc := "([Ljava/lang/Object;I)V" } : Jvm.MethodName)) ∈ ws0 := zm (tb_2 (x16 (x16 (x16 (x16 (x16 (x16 (x16 (x16 (x16 (xh))))))))))) rfl
theorem mw_484 : (Jvm.Cond.instanceMethod ({ cls := "java/util/ArrayList", name := "fastRemove", desc := "([Ljava/lang/Object;I)V" } : Jvm.MethodName)) ∈ ws0 := zm (tb_2 (x16 (x16 (x16 (x16 (x16 (x16 (x16 (x16 (x16 (x1 (x1 (xh))))))))))))) rfl
theorem mc_yJx4a65c_fastRemove_b59b0 : (Cond.code yJx4a65c_fastRemove_b59b0 cJx4a65c_fastRemove_b59b0 4 none) ∈ ws0 := zm (tb_2 (x16 (x16 (x16 (x16 (x16 (x16 (x16 (x16 (x16 (x1 (x1 (x1 (xh)))))))))))))) rfl
theorem mw_487 : (Jvm.Cond.static ({ cls := "java/lang/System", name := "arraycopy", desc := "(Ljava/lang/Object;ILjava/lang/Object;II)V" } : Jvm.MethodName)) ∈ ws0 := zm (tb_2 (x16 (x16 (x16 (x16 (x16 (x16 (x16 (x16 (x16 (x1 (x1 (x1 (x1 (x1 (xh)))))))))))))))) rfl
theorem mw_489 : (Jvm.Cond.methodLink "ScaleShop" (112 : Nat) ({ cls := "ScaleShop$Sheet", name := "add", desc := "(LScaleShop$Feature;)I" } : Jvm.MethodName)) ∈ ws0 := zm (tb_2 (x16 (x16 (x16 (x16 (x16 (x16 (x16 (x16 (x16 (x1 (x1 (x1 (x1 (x1 (x1 (x1 (xh)))))))))))))))))) rfl
theorem mw_490 : (Jvm.Cond.instanceMethod ({ cls := "ScaleShop$Sheet", name := "add", desc := "(LScaleShop$Feature;)I" } : Jvm.MethodName)) ∈ ws0 := zm (tb_2 (x16 (x16 (x16 (x16 (x16 (x16 (x16 (x16 (x16 (x1 (x1 (x1 (x1 (x1 (x1 (x1 (x1 (xh))))))))))))))))))) rfl
theorem mw_491 : (Jvm.Cond.selects "ScaleShop$Sheet" ({ cls := "ScaleShop$Sheet", name := "add", desc := "(LScaleShop$Feature;)I" } : Jvm.MethodName) ({ cls := "ScaleShop$Sheet", name := "add", desc := "(LScaleShop$Feature;)I" } : Jvm.MethodName)) ∈ ws0 := zm (tb_2 (x16 (x16 (x16 (x16 (x16 (x16 (x16 (x16 (x16 (x1 (x1 (x1 (x1 (x1 (x1 (x1 (x1 (x1 (xh)))))))))))))))))))) rfl
theorem mc_yX8_add : (Cond.code yX8_add cX8_add 2 (some .int)) ∈ ws0 := zm (tb_2 (x16 (x16 (x16 (x16 (x16 (x16 (x16 (x16 (x16 (x1 (x1 (x1 (x1 (x1 (x1 (x1 (x1 (x1 (x1 (xh))))))))))))))))))))) rfl
theorem mw_493 : (Jvm.Cond.methodLink "ScaleShop$Sheet" (21 : Nat) ({ cls := "ScaleShop$Sheet", name := "isFull", desc := "()Z" } : Jvm.MethodName)) ∈ ws0 := zm (tb_2 (x16 (x16 (x16 (x16 (x16 (x16 (x16 (x16 (x16 (x1 (x1 (x1 (x1 (x1 (x1 (x1 (x1 (x1 (x1 (x1 (xh)))))))))))))))))))))) rfl
theorem mw_494 : (Jvm.Cond.methodLink "ScaleShopLaw" (18 : Nat) ({ cls := "ScaleShop", name := "corner", desc := "(III)I" } : Jvm.MethodName)) ∈ ws0 := zm (tb_2 (x16 (x16 (x16 (x16 (x16 (x16 (x16 (x16 (x16 (x1 (x1 (x1 (x1 (x1 (x1 (x1 (x1 (x1 (x1 (x1 (x1 (xh))))))))))))))))))))))) rfl
theorem mw_495 : (Jvm.Cond.instanceMethod ({ cls := "ScaleShop", name := "corner", desc := "(III)I" } : Jvm.MethodName)) ∈ ws0 := zm (tb_2 (x16 (x16 (x16 (x16 (x16 (x16 (x16 (x16 (x16 (x1 (x1 (x1 (x1 (x1 (x1 (x1 (x1 (x1 (x1 (x1 (x1 (x1 (xh)))))))))))))))))))))))) rfl
theorem mw_496 : (Jvm.Cond.selects "ScaleShop" ({ cls := "ScaleShop", name := "corner", desc := "(III)I" } : Jvm.MethodName) ({ cls := "ScaleShop", name := "corner", desc := "(III)I" } : Jvm.MethodName)) ∈ ws0 := zm (tb_2 (x16 (x16 (x16 (x16 (x16 (x16 (x16 (x16 (x16 (x1 (x1 (x1 (x1 (x1 (x1 (x1 (x1 (x1 (x1 (x1 (x1 (x1 (x1 (xh))))))))))))))))))))))))) rfl
theorem mc_yX10_corner : (Cond.code yX10_corner cX10_corner 6 (some .int)) ∈ ws0 := zm (tb_2 (x16 (x16 (x16 (x16 (x16 (x16 (x16 (x16 (x16 (x1 (x1 (x1 (x1 (x1 (x1 (x1 (x1 (x1 (x1 (x1 (x1 (x1 (x1 (x1 (xh)))))))))))))))))))))))))) rfl
theorem mw_498 : (Jvm.Cond.methodLink "ScaleShop" (116 : Nat) ({ cls := "ScaleShop$Sheet", name := "find", desc := "(I)LScaleShop$Feature;" } : Jvm.MethodName)) ∈ ws0 := zm (tb_2 (x16 (x16 (x16 (x16 (x16 (x16 (x16 (x16 (x16 (x16 (xh)))))))))))) rfl
theorem mw_499 : (Jvm.Cond.instanceMethod ({ cls := "ScaleShop$Sheet", name := "find", desc := "(I)LScaleShop$Feature;" } : Jvm.MethodName)) ∈ ws0 := zm (tb_2 (x16 (x16 (x16 (x16 (x16 (x16 (x16 (x16 (x16 (x16 (x1 (xh))))))))))))) rfl
theorem mw_500 : (Jvm.Cond.selects "ScaleShop$Sheet" ({ cls := "ScaleShop$Sheet", name := "find", desc := "(I)LScaleShop$Feature;" } : Jvm.MethodName) ({ cls := "ScaleShop$Sheet", name := "find", desc := "(I)LScaleShop$Feature;" } : Jvm.MethodName)) ∈ ws0 := zm (tb_2 (x16 (x16 (x16 (x16 (x16 (x16 (x16 (x16 (x16 (x16 (x1 (x1 (xh)))))))))))))) rfl
theorem mc_yX8_find : (Cond.code yX8_find cX8_find 2 (some (.object "ScaleShop$Feature"))) ∈ ws0 := zm (tb_2 (x16 (x16 (x16 (x16 (x16 (x16 (x16 (x16 (x16 (x16 (x1 (x1 (x1 (xh))))))))))))))) rfl
theorem mw_502 : (Jvm.Cond.methodLink "ScaleShop" (123 : Nat) ({ cls := "ScaleShop", name := "isPlace", desc := "(II)Z" } : Jvm.MethodName)) ∈ ws0 := zm (tb_2 (x16 (x16 (x16 (x16 (x16 (x16 (x16 (x16 (x16 (x16 (x1 (x1 (x1 (x1 (xh)))))))))))))))) rfl
theorem mw_503 : (Jvm.Cond.static ({ cls := "ScaleShop", name := "isPlace", desc := "(II)Z" } : Jvm.MethodName)) ∈ ws0 := zm (tb_2 (x16 (x16 (x16 (x16 (x16 (x16 (x16 (x16 (x16 (x16 (x1 (x1 (x1 (x1 (x1 (xh))))))))))))))))) rfl
theorem mc_yX10_isPlace : (Cond.code yX10_isPlace cX10_isPlace 2 (some .boolean)) ∈ ws0 := zm (tb_2 (x16 (x16 (x16 (x16 (x16 (x16 (x16 (x16 (x16 (x16 (x1 (x1 (x1 (x1 (x1 (x1 (xh)))))))))))))))))) rfl
theorem mw_505 : (Jvm.Cond.methodLink "ScaleShop" (133 : Nat) ({ cls := "ScaleShop$Row", name := "put", desc := "(II)V" } : Jvm.MethodName)) ∈ ws0 := zm (tb_2 (x16 (x16 (x16 (x16 (x16 (x16 (x16 (x16 (x16 (x16 (x1 (x1 (x1 (x1 (x1 (x1 (x1 (xh))))))))))))))))))) rfl
theorem mw_506 : (Jvm.Cond.instanceMethod ({ cls := "ScaleShop$Row", name := "put", desc := "(II)V" } : Jvm.MethodName)) ∈ ws0 := zm (tb_2 (x16 (x16 (x16 (x16 (x16 (x16 (x16 (x16 (x16 (x16 (x1 (x1 (x1 (x1 (x1 (x1 (x1 (x1 (xh)))))))))))))))))))) rfl
theorem mw_507 : (Jvm.Cond.selects "ScaleShop$Row" ({ cls := "ScaleShop$Row", name := "put", desc := "(II)V" } : Jvm.MethodName) ({ cls := "ScaleShop$Row", name := "put", desc := "(II)V" } : Jvm.MethodName)) ∈ ws0 := zm (tb_2 (x16 (x16 (x16 (x16 (x16 (x16 (x16 (x16 (x16 (x16 (x1 (x1 (x1 (x1 (x1 (x1 (x1 (x1 (x1 (xh))))))))))))))))))))) rfl
theorem mc_yX7_put : (Cond.code yX7_put cX7_put 3 none) ∈ ws0 := zm (tb_2 (x16 (x16 (x16 (x16 (x16 (x16 (x16 (x16 (x16 (x16 (x1 (x1 (x1 (x1 (x1 (x1 (x1 (x1 (x1 (x1 (xh)))))))))))))))))))))) rfl
theorem mw_509 : (Jvm.Cond.methodLink "ScaleShopLaw" (23 : Nat) ({ cls := "ScaleShop", name := "tear", desc := "(I)Z" } : Jvm.MethodName)) ∈ ws0 := zm (tb_2 (x16 (x16 (x16 (x16 (x16 (x16 (x16 (x16 (x16 (x16 (x1 (x1 (x1 (x1 (x1 (x1 (x1 (x1 (x1 (x1 (x1 (xh))))))))))))))))))))))) rfl
theorem mw_510 : (Jvm.Cond.instanceMethod ({ cls := "ScaleShop", name := "tear", desc := "(I)Z" } : Jvm.MethodName)) ∈ ws0 := zm (tb_2 (x16 (x16 (x16 (x16 (x16 (x16 (x16 (x16 (x16 (x16 (x1 (x1 (x1 (x1 (x1 (x1 (x1 (x1 (x1 (x1 (x1 (x1 (xh)))))))))))))))))))))))) rfl
theorem mw_511 : (Jvm.Cond.selects "ScaleShop" ({ cls := "ScaleShop", name := "tear", desc := "(I)Z" } : Jvm.MethodName) ({ cls := "ScaleShop", name := "tear", desc := "(I)Z" } : Jvm.MethodName)) ∈ ws0 := zm (tb_2 (x16 (x16 (x16 (x16 (x16 (x16 (x16 (x16 (x16 (x16 (x1 (x1 (x1 (x1 (x1 (x1 (x1 (x1 (x1 (x1 (x1 (x1 (x1 (xh))))))))))))))))))))))))) rfl
theorem mc_yX10_tear : (Cond.code yX10_tear cX10_tear 3 (some .boolean)) ∈ ws0 := zm (tb_2 (x16 (x16 (x16 (x16 (x16 (x16 (x16 (x16 (x16 (x16 (x1 (x1 (x1 (x1 (x1 (x1 (x1 (x1 (x1 (x1 (x1 (x1 (x1 (x1 (xh)))))))))))))))))))))))))) rfl
theorem mw_513 : (Jvm.Cond.methodLink "ScaleShop" (137 : Nat) ({ cls := "ScaleShop", name := "deny", desc := "(I)Z" } : Jvm.MethodName)) ∈ ws0 := zm (tb_2 (x16 (x16 (x16 (x16 (x16 (x16 (x16 (x16 (x16 (x16 (x1 (x1 (x1 (x1 (x1 (x1 (x1 (x1 (x1 (x1 (x1 (x1 (x1 (x1 (x1 (xh))))))))))))))))))))))))))) rfl
theorem mw_515 : (Jvm.Cond.instanceMethod ({ cls := "ScaleShop", name := "deny", desc := "(I)Z" } : Jvm.MethodName)) ∈ ws0 := zm (tb_2 (x16 (x16 (x16 (x16 (x16 (x16 (x16 (x16 (x16 (x16 (x16 (x1 (xh)))))))))))))) rfl
theorem mc_yX10_deny : (Cond.code yX10_deny cX10_deny 2 (some .boolean)) ∈ ws0 := zm (tb_2 (x16 (x16 (x16 (x16 (x16 (x16 (x16 (x16 (x16 (x16 (x16 (x1 (x1 (xh))))))))))))))) rfl
theorem mw_517 : (Jvm.Cond.methodLink "ScaleShopLaw" (28 : Nat) ({ cls := "ScaleShop", name := "done", desc := "(I)Z" } : Jvm.MethodName)) ∈ ws0 := zm (tb_2 (x16 (x16 (x16 (x16 (x16 (x16 (x16 (x16 (x16 (x16 (x16 (x1 (x1 (x1 (xh)))))))))))))))) rfl
theorem mw_518 : (Jvm.Cond.instanceMethod ({ cls := "ScaleShop", name := "done", desc := "(I)Z" } : Jvm.MethodName)) ∈ ws0 := zm (tb_2 (x16 (x16 (x16 (x16 (x16 (x16 (x16 (x16 (x16 (x16 (x16 (x1 (x1 (x1 (x1 (xh))))))))))))))))) rfl
theorem mw_519 : (Jvm.Cond.selects "ScaleShop" ({ cls := "ScaleShop", name := "done", desc := "(I)Z" } : Jvm.MethodName) ({ cls := "ScaleShop", name := "done", desc := "(I)Z" } : Jvm.MethodName)) ∈ ws0 := zm (tb_2 (x16 (x16 (x16 (x16 (x16 (x16 (x16 (x16 (x16 (x16 (x16 (x1 (x1 (x1 (x1 (x1 (xh)))))))))))))))))) rfl
theorem mc_yX10_done : (Cond.code yX10_done cX10_done 4 (some .boolean)) ∈ ws0 := zm (tb_2 (x16 (x16 (x16 (x16 (x16 (x16 (x16 (x16 (x16 (x16 (x16 (x1 (x1 (x1 (x1 (x1 (x1 (xh))))))))))))))))))) rfl
theorem mw_521 : (Jvm.Cond.methodLink "ScaleShop" (141 : Nat) ({ cls := "ScaleShop", name := "fewestCorners", desc := "(I)I" } : Jvm.MethodName)) ∈ ws0 := zm (tb_2 (x16 (x16 (x16 (x16 (x16 (x16 (x16 (x16 (x16 (x16 (x16 (x1 (x1 (x1 (x1 (x1 (x1 (x1 (xh)))))))))))))))))))) rfl
theorem mw_522 : (Jvm.Cond.static ({ cls := "ScaleShop", name := "fewestCorners", desc := "(I)I" } : Jvm.MethodName)) ∈ ws0 := zm (tb_2 (x16 (x16 (x16 (x16 (x16 (x16 (x16 (x16 (x16 (x16 (x16 (x1 (x1 (x1 (x1 (x1 (x1 (x1 (x1 (xh))))))))))))))))))))) rfl
theorem mc_yX10_fewestCorners : (Cond.code yX10_fewestCorners cX10_fewestCorners 1 (some .int)) ∈ ws0 := zm (tb_2 (x16 (x16 (x16 (x16 (x16 (x16 (x16 (x16 (x16 (x16 (x16 (x1 (x1 (x1 (x1 (x1 (x1 (x1 (x1 (x1 (xh)))))))))))))))))))))) rfl
theorem mw_524 : (Jvm.Cond.methodLink "ScaleShop" (144 : Nat) ({ cls := "ScaleShop$Row", name := "isSound", desc := "(I)Z" } : Jvm.MethodName)) ∈ ws0 := zm (tb_2 (x16 (x16 (x16 (x16 (x16 (x16 (x16 (x16 (x16 (x16 (x16 (x1 (x1 (x1 (x1 (x1 (x1 (x1 (x1 (x1 (x1 (xh))))))))))))))))))))))) rfl
theorem mw_525 : (Jvm.Cond.instanceMethod ({ cls := "ScaleShop$Row", name := "isSound", desc := "(I)Z" } : Jvm.MethodName)) ∈ ws0 := zm (tb_2 (x16 (x16 (x16 (x16 (x16 (x16 (x16 (x16 (x16 (x16 (x16 (x1 (x1 (x1 (x1 (x1 (x1 (x1 (x1 (x1 (x1 (x1 (xh)))))))))))))))))))))))) rfl
theorem mw_526 : (Jvm.Cond.selects "ScaleShop$Row" ({ cls := "ScaleShop$Row", name := "isSound", desc := "(I)Z" } : Jvm.MethodName) ({ cls := "ScaleShop$Row", name := "isSound", desc := "(I)Z" } : Jvm.MethodName)) ∈ ws0 := zm (tb_2 (x16 (x16 (x16 (x16 (x16 (x16 (x16 (x16 (x16 (x16 (x16 (x1 (x1 (x1 (x1 (x1 (x1 (x1 (x1 (x1 (x1 (x1 (x1 (xh))))))))))))))))))))))))) rfl
theorem mc_yX7_isSound : (Cond.code yX7_isSound cX7_isSound 3 (some .boolean)) ∈ ws0 := zm (tb_2 (x16 (x16 (x16 (x16 (x16 (x16 (x16 (x16 (x16 (x16 (x16 (x1 (x1 (x1 (x1 (x1 (x1 (x1 (x1 (x1 (x1 (x1 (x1 (x1 (xh)))))))))))))))))))))))))) rfl
theorem mw_528 : (Jvm.Cond.methodLink "ScaleShop$Row" (47 : Nat) ({ cls := "ScaleShop$Row", name := "edges", desc := "()I" } : Jvm.MethodName)) ∈ ws0 := zm (tb_2 (x16 (x16 (x16 (x16 (x16 (x16 (x16 (x16 (x16 (x16 (x16 (x1 (x1 (x1 (x1 (x1 (x1 (x1 (x1 (x1 (x1 (x1 (x1 (x1 (x1 (xh))))))))))))))))))))))))))) rfl
theorem mw_529 : (Jvm.Cond.instanceMethod ({ cls := "ScaleShop$Row", name := "edges", desc := "()I" } : Jvm.MethodName)) ∈ ws0 := zm (tb_2 (x16 (x16 (x16 (x16 (x16 (x16 (x16 (x16 (x16 (x16 (x16 (x1 (x1 (x1 (x1 (x1 (x1 (x1 (x1 (x1 (x1 (x1 (x1 (x1 (x1 (x1 (xh)))))))))))))))))))))))))))) rfl
theorem mw_530 : (Jvm.Cond.selects "ScaleShop$Row" ({ cls := "ScaleShop$Row", name := "edges", desc := "()I" } : Jvm.MethodName) ({ cls := "ScaleShop$Row", name := "edges", desc := "()I" } : Jvm.MethodName)) ∈ ws0 := zm (tb_2 (x16 (x16 (x16 (x16 (x16 (x16 (x16 (x16 (x16 (x16 (x16 (x16 (xh)))))))))))))) rfl
theorem mc_yX7_edges : (Cond.code yX7_edges cX7_edges 1 (some .int)) ∈ ws0 := zm (tb_2 (x16 (x16 (x16 (x16 (x16 (x16 (x16 (x16 (x16 (x16 (x16 (x16 (x1 (xh))))))))))))))) rfl
theorem mw_532 : (Jvm.Cond.methodLink "ScaleShop$Row" (69 : Nat) ({ cls := "ScaleShop$Row", name := "isEdgeFree", desc := "(II)Z" } : Jvm.MethodName)) ∈ ws0 := zm (tb_2 (x16 (x16 (x16 (x16 (x16 (x16 (x16 (x16 (x16 (x16 (x16 (x16 (x1 (x1 (xh)))))))))))))))) rfl
theorem mw_533 : (Jvm.Cond.instanceMethod ({ cls := "ScaleShop$Row", name := "isEdgeFree", desc := "(II)Z" } : Jvm.MethodName)) ∈ ws0 := zm (tb_2 (x16 (x16 (x16 (x16 (x16 (x16 (x16 (x16 (x16 (x16 (x16 (x16 (x1 (x1 (x1 (xh))))))))))))))))) rfl
theorem mw_534 : (Jvm.Cond.selects "ScaleShop$Row" ({ cls := "ScaleShop$Row", name := "isEdgeFree", desc := "(II)Z" } : Jvm.MethodName) ({ cls := "ScaleShop$Row", name := "isEdgeFree", desc := "(II)Z" } : Jvm.MethodName)) ∈ ws0 := zm (tb_2 (x16 (x16 (x16 (x16 (x16 (x16 (x16 (x16 (x16 (x16 (x16 (x16 (x1 (x1 (x1 (x1 (xh)))))))))))))))))) rfl
theorem mc_yX7_isEdgeFree : (Cond.code yX7_isEdgeFree cX7_isEdgeFree 5 (some .boolean)) ∈ ws0 := zm (tb_2 (x16 (x16 (x16 (x16 (x16 (x16 (x16 (x16 (x16 (x16 (x16 (x16 (x1 (x1 (x1 (x1 (x1 (xh))))))))))))))))))) rfl
theorem mw_536 : (Jvm.Cond.methodLink "ScaleShop$Row" (77 : Nat) ({ cls := "ScaleShop$Row", name := "next", desc := "(I)I" } : Jvm.MethodName)) ∈ ws0 := zm (tb_2 (x16 (x16 (x16 (x16 (x16 (x16 (x16 (x16 (x16 (x16 (x16 (x16 (x1 (x1 (x1 (x1 (x1 (x1 (xh)))))))))))))))))))) rfl
theorem mw_537 : (Jvm.Cond.instanceMethod ({ cls := "ScaleShop$Row", name := "next", desc := "(I)I" } : Jvm.MethodName)) ∈ ws0 := zm (tb_2 (x16 (x16 (x16 (x16 (x16 (x16 (x16 (x16 (x16 (x16 (x16 (x16 (x1 (x1 (x1 (x1 (x1 (x1 (x1 (xh))))))))))))))))))))) rfl
theorem mw_538 : (Jvm.Cond.selects "ScaleShop$Row" ({ cls := "ScaleShop$Row", name := "next", desc := "(I)I" } : Jvm.MethodName) ({ cls := "ScaleShop$Row", name := "next", desc := "(I)I" } : Jvm.MethodName)) ∈ ws0 := zm (tb_2 (x16 (x16 (x16 (x16 (x16 (x16 (x16 (x16 (x16 (x16 (x16 (x16 (x1 (x1 (x1 (x1 (x1 (x1 (x1 (x1 (xh)))))))))))))))))))))) rfl
theorem mc_yX7_next : (Cond.code yX7_next cX7_next 2 (some .int)) ∈ ws0 := zm (tb_2 (x16 (x16 (x16 (x16 (x16 (x16 (x16 (x16 (x16 (x16 (x16 (x16 (x1 (x1 (x1 (x1 (x1 (x1 (x1 (x1 (x1 (xh))))))))))))))))))))))) rfl
theorem mw_540 : (Jvm.Cond.methodLink "ScaleShop$Row" (62 : Nat) ({ cls := "ScaleShop$Row", name := "isCorner", desc := "(III)Z" } : Jvm.MethodName)) ∈ ws0 := zm (tb_2 (x16 (x16 (x16 (x16 (x16 (x16 (x16 (x16 (x16 (x16 (x16 (x16 (x1 (x1 (x1 (x1 (x1 (x1 (x1 (x1 (x1 (x1 (xh)))))))))))))))))))))))) rfl
theorem mw_541 : (Jvm.Cond.instanceMethod ({ cls := "ScaleShop$Row", name := "isCorner", desc := "(III)Z" } : Jvm.MethodName)) ∈ ws0 := zm (tb_2 (x16 (x16 (x16 (x16 (x16 (x16 (x16 (x16 (x16 (x16 (x16 (x16 (x1 (x1 (x1 (x1 (x1 (x1 (x1 (x1 (x1 (x1 (x1 (xh))))))))))))))))))))))))) rfl
theorem mw_542 : (Jvm.Cond.selects "ScaleShop$Row" ({ cls := "ScaleShop$Row", name := "isCorner", desc := "(III)Z" } : Jvm.MethodName) ({ cls := "ScaleShop$Row", name := "isCorner", desc := "(III)Z" } : Jvm.MethodName)) ∈ ws0 := zm (tb_2 (x16 (x16 (x16 (x16 (x16 (x16 (x16 (x16 (x16 (x16 (x16 (x16 (x1 (x1 (x1 (x1 (x1 (x1 (x1 (x1 (x1 (x1 (x1 (x1 (xh)))))))))))))))))))))))))) rfl
theorem mc_yX7_isCorner : (Cond.code yX7_isCorner cX7_isCorner 4 (some .boolean)) ∈ ws0 := zm (tb_2 (x16 (x16 (x16 (x16 (x16 (x16 (x16 (x16 (x16 (x16 (x16 (x16 (x1 (x1 (x1 (x1 (x1 (x1 (x1 (x1 (x1 (x1 (x1 (x1 (x1 (xh))))))))))))))))))))))))))) rfl
theorem mw_544 : (Jvm.Cond.methodLink "ScaleShop$Row" (81 : Nat) ({ cls := "ScaleShop$Row", name := "foldsBack", desc := "(I)Z" } : Jvm.MethodName)) ∈ ws0 := zm (tb_2 (x16 (x16 (x16 (x16 (x16 (x16 (x16 (x16 (x16 (x16 (x16 (x16 (x1 (x1 (x1 (x1 (x1 (x1 (x1 (x1 (x1 (x1 (x1 (x1 (x1 (x1 (xh)))))))))))))))))))))))))))) rfl
theorem mw_546 : (Jvm.Cond.instanceMethod ({ cls := "ScaleShop$Row", name := "foldsBack", desc := "(I)Z" } : Jvm.MethodName)) ∈ ws0 := zm (tb_2 (x16 (x16 (x16 (x16 (x16 (x16 (x16 (x16 (x16 (x16 (x16 (x16 (x16 (xh))))))))))))))) rfl
theorem mc_yX7_foldsBack : (Cond.code yX7_foldsBack cX7_foldsBack 8 (some .boolean)) ∈ ws0 := zm (tb_2 (x16 (x16 (x16 (x16 (x16 (x16 (x16 (x16 (x16 (x16 (x16 (x16 (x16 (x1 (xh)))))))))))))))) rfl
theorem mw_548 : (Jvm.Cond.methodLink "ScaleShop$Row" (65 : Nat) ({ cls := "ScaleShop$Row", name := "partsMeet", desc := "(ILScaleShop$Row;I)Z" } : Jvm.MethodName)) ∈ ws0 := zm (tb_2 (x16 (x16 (x16 (x16 (x16 (x16 (x16 (x16 (x16 (x16 (x16 (x16 (x16 (x1 (x1 (xh))))))))))))))))) rfl
theorem mw_549 : (Jvm.Cond.instanceMethod ({ cls := "ScaleShop$Row", name := "partsMeet", desc := "(ILScaleShop$Row;I)Z" } : Jvm.MethodName)) ∈ ws0 := zm (tb_2 (x16 (x16 (x16 (x16 (x16 (x16 (x16 (x16 (x16 (x16 (x16 (x16 (x16 (x1 (x1 (x1 (xh)))))))))))))))))) rfl
theorem mw_550 : (Jvm.Cond.selects "ScaleShop$Row" ({ cls := "ScaleShop$Row", name := "partsMeet", desc := "(ILScaleShop$Row;I)Z" } : Jvm.MethodName) ({ cls := "ScaleShop$Row", name := "partsMeet", desc := "(ILScaleShop$Row;I)Z" } : Jvm.MethodName)) ∈ ws0 := zm (tb_2 (x16 (x16 (x16 (x16 (x16 (x16 (x16 (x16 (x16 (x16 (x16 (x16 (x16 (x1 (x1 (x1 (x1 (xh))))))))))))))))))) rfl
theorem mc_yX7_partsMeet : (Cond.code yX7_partsMeet cX7_partsMeet 18 (some .boolean)) ∈ ws0 := zm (tb_2 (x16 (x16 (x16 (x16 (x16 (x16 (x16 (x16 (x16 (x16 (x16 (x16 (x16 (x1 (x1 (x1 (x1 (x1 (xh)))))))))))))))))))) rfl
theorem mw_552 : (Jvm.Cond.methodLink "ScaleShop$Row" (73 : Nat) ({ cls := "ScaleShop$Row", name := "hasRightAngles", desc := "()Z" } : Jvm.MethodName)) ∈ ws0 := zm (tb_2 (x16 (x16 (x16 (x16 (x16 (x16 (x16 (x16 (x16 (x16 (x16 (x16 (x16 (x1 (x1 (x1 (x1 (x1 (x1 (xh))))))))))))))))))))) rfl
theorem mw_554 : (Jvm.Cond.instanceMethod ({ cls := "ScaleShop$Row", name := "hasRightAngles", desc := "()Z" } : Jvm.MethodName)) ∈ ws0 := zm (tb_2 (x16 (x16 (x16 (x16 (x16 (x16 (x16 (x16 (x16 (x16 (x16 (x16 (x16 (x1 (x1 (x1 (x1 (x1 (x1 (x1 (x1 (xh))))))))))))))))))))))) rfl
theorem mc_yX7_hasRightAngles : (Cond.code yX7_hasRightAngles cX7_hasRightAngles 4 (some .boolean)) ∈ ws0 := zm (tb_2 (x16 (x16 (x16 (x16 (x16 (x16 (x16 (x16 (x16 (x16 (x16 (x16 (x16 (x1 (x1 (x1 (x1 (x1 (x1 (x1 (x1 (x1 (xh)))))))))))))))))))))))) rfl
theorem mw_556 : (Jvm.Cond.methodLink "ScaleShop$Row" (85 : Nat) ({ cls := "ScaleShop$Row", name := "previous", desc := "(I)I" } : Jvm.MethodName)) ∈ ws0 := zm (tb_2 (x16 (x16 (x16 (x16 (x16 (x16 (x16 (x16 (x16 (x16 (x16 (x16 (x16 (x1 (x1 (x1 (x1 (x1 (x1 (x1 (x1 (x1 (x1 (xh))))))))))))))))))))))))) rfl
theorem mw_557 : (Jvm.Cond.instanceMethod ({ cls := "ScaleShop$Row", name := "previous", desc := "(I)I" } : Jvm.MethodName)) ∈ ws0 := zm (tb_2 (x16 (x16 (x16 (x16 (x16 (x16 (x16 (x16 (x16 (x16 (x16 (x16 (x16 (x1 (x1 (x1 (x1 (x1 (x1 (x1 (x1 (x1 (x1 (x1 (xh)))))))))))))))))))))))))) rfl
theorem mw_558 : (Jvm.Cond.selects "ScaleShop$Row" ({ cls := "ScaleShop$Row", name := "previous", desc := "(I)I" } : Jvm.MethodName) ({ cls := "ScaleShop$Row", name := "previous", desc := "(I)I" } : Jvm.MethodName)) ∈ ws0 := zm (tb_2 (x16 (x16 (x16 (x16 (x16 (x16 (x16 (x16 (x16 (x16 (x16 (x16 (x16 (x1 (x1 (x1 (x1 (x1 (x1 (x1 (x1 (x1 (x1 (x1 (x1 (xh))))))))))))))))))))))))))) rfl
theorem mc_yX7_previous : (Cond.code yX7_previous cX7_previous 2 (some .int)) ∈ ws0 := zm (tb_2 (x16 (x16 (x16 (x16 (x16 (x16 (x16 (x16 (x16 (x16 (x16 (x16 (x16 (x1 (x1 (x1 (x1 (x1 (x1 (x1 (x1 (x1 (x1 (x1 (x1 (x1 (xh)))))))))))))))))))))))))))) rfl
theorem mw_560 : (Jvm.Cond.methodLink "ScaleShopLaw" (32 : Nat) ({ cls := "ScaleShop", name := "plainer", desc := "(II)I" } : Jvm.MethodName)) ∈ ws0 := zm (tb_2 (x16 (x16 (x16 (x16 (x16 (x16 (x16 (x16 (x16 (x16 (x16 (x16 (x16 (x1 (x1 (x1 (x1 (x1 (x1 (x1 (x1 (x1 (x1 (x1 (x1 (x1 (x1 (xh))))))))))))))))))))))))))))) rfl
theorem mw_561 : (Jvm.Cond.instanceMethod ({ cls := "ScaleShop", name := "plainer", desc := "(II)I" } : Jvm.MethodName)) ∈ ws0 := zm (tb_2 (x16 (x16 (x16 (x16 (x16 (x16 (x16 (x16 (x16 (x16 (x16 (x16 (x16 (x1 (x1 (x1 (x1 (x1 (x1 (x1 (x1 (x1 (x1 (x1 (x1 (x1 (x1 (x1 (xh)))))))))))))))))))))))))))))) rfl
theorem mw_562 : (Jvm.Cond.selects "ScaleShop" ({ cls := "ScaleShop", name := "plainer", desc := "(II)I" } : Jvm.MethodName) ({ cls := "ScaleShop", name := "plainer", desc := "(II)I" } : Jvm.MethodName)) ∈ ws0 := zm (tb_2 (x16 (x16 (x16 (x16 (x16 (x16 (x16 (x16 (x16 (x16 (x16 (x16 (x16 (x16 (xh)))))))))))))))) rfl
theorem mc_yX10_plainer : (Cond.code yX10_plainer cX10_plainer 5 (some .int)) ∈ ws0 := zm (tb_2 (x16 (x16 (x16 (x16 (x16 (x16 (x16 (x16 (x16 (x16 (x16 (x16 (x16 (x16 (x1 (xh))))))))))))))))) rfl
theorem mw_564 : (Jvm.Cond.methodLink "ScaleShop" (147 : Nat) ({ cls := "ScaleShop$Feature", name := "bends", desc := "()Z" } : Jvm.MethodName)) ∈ ws0 := zm (tb_2 (x16 (x16 (x16 (x16 (x16 (x16 (x16 (x16 (x16 (x16 (x16 (x16 (x16 (x16 (x1 (x1 (xh)))))))))))))))))) rfl
theorem mw_565 : (Jvm.Cond.instanceMethod ({ cls := "ScaleShop$Feature", name := "bends", desc := "()Z" } : Jvm.MethodName)) ∈ ws0 := zm (tb_2 (x16 (x16 (x16 (x16 (x16 (x16 (x16 (x16 (x16 (x16 (x16 (x16 (x16 (x16 (x1 (x1 (x1 (xh))))))))))))))))))) rfl
theorem mw_566 : (Jvm.Cond.selects "ScaleShop$Feature" ({ cls := "ScaleShop$Feature", name := "bends", desc := "()Z" } : Jvm.MethodName) ({ cls := "ScaleShop$Feature", name := "bends", desc := "()Z" } : Jvm.MethodName)) ∈ ws0 := zm (tb_2 (x16 (x16 (x16 (x16 (x16 (x16 (x16 (x16 (x16 (x16 (x16 (x16 (x16 (x16 (x1 (x1 (x1 (x1 (xh)))))))))))))))))))) rfl
theorem mc_yX2_bends : (Cond.code yX2_bends cX2_bends 1 (some .boolean)) ∈ ws0 := zm (tb_2 (x16 (x16 (x16 (x16 (x16 (x16 (x16 (x16 (x16 (x16 (x16 (x16 (x16 (x16 (x1 (x1 (x1 (x1 (x1 (xh))))))))))))))))))))) rfl
theorem mw_568 : (Jvm.Cond.methodLink "ScaleShop" (150 : Nat) ({ cls := "ScaleShop", name := "thin", desc := "(LScaleShop$Feature;I)I" } : Jvm.MethodName)) ∈ ws0 := zm (tb_2 (x16 (x16 (x16 (x16 (x16 (x16 (x16 (x16 (x16 (x16 (x16 (x16 (x16 (x16 (x1 (x1 (x1 (x1 (x1 (x1 (xh)))))))))))))))))))))) rfl
theorem mw_570 : (Jvm.Cond.instanceMethod ({ cls := "ScaleShop", name := "thin", desc := "(LScaleShop$Feature;I)I" } : Jvm.MethodName)) ∈ ws0 := zm (tb_2 (x16 (x16 (x16 (x16 (x16 (x16 (x16 (x16 (x16 (x16 (x16 (x16 (x16 (x16 (x1 (x1 (x1 (x1 (x1 (x1 (x1 (x1 (xh)))))))))))))))))))))))) rfl
theorem mc_yX10_thin : (Cond.code yX10_thin cX10_thin 6 (some .int)) ∈ ws0 := zm (tb_2 (x16 (x16 (x16 (x16 (x16 (x16 (x16 (x16 (x16 (x16 (x16 (x16 (x16 (x16 (x1 (x1 (x1 (x1 (x1 (x1 (x1 (x1 (x1 (xh))))))))))))))))))))))))) rfl
theorem mw_572 : (Jvm.Cond.methodLink "ScaleShop" (399 : Nat) ({ cls := "ScaleShop$Law", name := "cornerThatGoes", desc := "(LScaleShop$Sheet;LScaleShop$Feature;I)I" } : Jvm.MethodName)) ∈ ws0 := zm (tb_2 (x16 (x16 (x16 (x16 (x16 (x16 (x16 (x16 (x16 (x16 (x16 (x16 (x16 (x16 (x1 (x1 (x1 (x1 (x1 (x1 (x1 (x1 (x1 (x1 (xh)))))))))))))))))))))))))) rfl
theorem mw_573 : (Jvm.Cond.instanceMethod ({ cls := "ScaleShop$Law", name := "cornerThatGoes", desc := "(LScaleShop$Sheet;LScaleShop$Feature;I)I" } : Jvm.MethodName)) ∈ ws0 := zm (tb_2 (x16 (x16 (x16 (x16 (x16 (x16 (x16 (x16 (x16 (x16 (x16 (x16 (x16 (x16 (x1 (x1 (x1 (x1 (x1 (x1 (x1 (x1 (x1 (x1 (x1 (xh))))))))))))))))))))))))))) rfl
theorem mw_574 : (Jvm.Cond.selects "ScaleShop$Law" ({ cls := "ScaleShop$Law", name := "cornerThatGoes", desc := "(LScaleShop$Sheet;LScaleShop$Feature;I)I" } : Jvm.MethodName) ({ cls := "ScaleShop$Law", name := "cornerThatGoes", desc := "(LScaleShop$Sheet;LScaleShop$Feature;I)I" } : Jvm.MethodName)) ∈ ws0 := zm (tb_2 (x16 (x16 (x16 (x16 (x16 (x16 (x16 (x16 (x16 (x16 (x16 (x16 (x16 (x16 (x1 (x1 (x1 (x1 (x1 (x1 (x1 (x1 (x1 (x1 (x1 (x1 (xh)))))))))))))))))))))))))))) rfl
theorem mc_yX4_cornerThatGoes : (Cond.code yX4_cornerThatGoes cX4_cornerThatGoes 7 (some .int)) ∈ ws0 := zm (tb_2 (x16 (x16 (x16 (x16 (x16 (x16 (x16 (x16 (x16 (x16 (x16 (x16 (x16 (x16 (x1 (x1 (x1 (x1 (x1 (x1 (x1 (x1 (x1 (x1 (x1 (x1 (x1 (xh))))))))))))))))))))))))))))) rfl
theorem mw_576 : (Jvm.Cond.methodLink "ScaleShop$Law" (59 : Nat) ({ cls := "ScaleShop$Row", name := "isEnd", desc := "(I)Z" } : Jvm.MethodName)) ∈ ws0 := zm (tb_2 (x16 (x16 (x16 (x16 (x16 (x16 (x16 (x16 (x16 (x16 (x16 (x16 (x16 (x16 (x1 (x1 (x1 (x1 (x1 (x1 (x1 (x1 (x1 (x1 (x1 (x1 (x1 (x1 (xh)))))))))))))))))))))))))))))) rfl
theorem mw_577 : (Jvm.Cond.instanceMethod ({ cls := "ScaleShop$Row", name := "isEnd", desc := "(I)Z" } : Jvm.MethodName)) ∈ ws0 := zm (tb_2 (x16 (x16 (x16 (x16 (x16 (x16 (x16 (x16 (x16 (x16 (x16 (x16 (x16 (x16 (x1 (x1 (x1 (x1 (x1 (x1 (x1 (x1 (x1 (x1 (x1 (x1 (x1 (x1 (x1 (xh))))))))))))))))))))))))))))))) rfl
theorem mw_578 : (Jvm.Cond.selects "ScaleShop$Row" ({ cls := "ScaleShop$Row", name := "isEnd", desc := "(I)Z" } : Jvm.MethodName) ({ cls := "ScaleShop$Row", name := "isEnd", desc := "(I)Z" } : Jvm.MethodName)) ∈ ws0 := zm (tb_3 (xh)) rfl
theorem mc_yX7_isEnd : (Cond.code yX7_isEnd cX7_isEnd 2 (some .boolean)) ∈ ws0 := zm (tb_3 (x1 (xh))) rfl
theorem mw_580 : (Jvm.Cond.methodLink "ScaleShop$Law" (63 : Nat) ({ cls := "ScaleShop$Row", name := "doubleTriangle", desc := "(I)I" } : Jvm.MethodName)) ∈ ws0 := zm (tb_3 (x1 (x1 (xh)))) rfl
theorem mw_581 : (Jvm.Cond.instanceMethod ({ cls := "ScaleShop$Row", name := "doubleTriangle", desc := "(I)I" } : Jvm.MethodName)) ∈ ws0 := zm (tb_3 (x1 (x1 (x1 (xh))))) rfl
theorem mw_582 : (Jvm.Cond.selects "ScaleShop$Row" ({ cls := "ScaleShop$Row", name := "doubleTriangle", desc := "(I)I" } : Jvm.MethodName) ({ cls := "ScaleShop$Row", name := "doubleTriangle", desc := "(I)I" } : Jvm.MethodName)) ∈ ws0 := zm (tb_3 (x1 (x1 (x1 (x1 (xh)))))) rfl
theorem mc_yX7_doubleTriangle : (Cond.code yX7_doubleTriangle cX7_doubleTriangle 3 (some .int)) ∈ ws0 := zm (tb_3 (x1 (x1 (x1 (x1 (x1 (xh))))))) rfl
theorem mw_584 : (Jvm.Cond.methodLink "ScaleShop$Row" (51 : Nat) ({ cls := "ScaleShop$Row", name := "turn", desc := "(III)I" } : Jvm.MethodName)) ∈ ws0 := zm (tb_3 (x1 (x1 (x1 (x1 (x1 (x1 (xh)))))))) rfl
theorem mw_585 : (Jvm.Cond.instanceMethod ({ cls := "ScaleShop$Row", name := "turn", desc := "(III)I" } : Jvm.MethodName)) ∈ ws0 := zm (tb_3 (x1 (x1 (x1 (x1 (x1 (x1 (x1 (xh))))))))) rfl
theorem mw_586 : (Jvm.Cond.selects "ScaleShop$Row" ({ cls := "ScaleShop$Row", name := "turn", desc := "(III)I" } : Jvm.MethodName) ({ cls := "ScaleShop$Row", name := "turn", desc := "(III)I" } : Jvm.MethodName)) ∈ ws0 := zm (tb_3 (x1 (x1 (x1 (x1 (x1 (x1 (x1 (x1 (xh)))))))))) rfl
theorem mc_yX7_turn : (Cond.code yX7_turn cX7_turn 5 (some .int)) ∈ ws0 := zm (tb_3 (x1 (x1 (x1 (x1 (x1 (x1 (x1 (x1 (x1 (xh))))))))))) rfl
theorem mw_588 : (Jvm.Cond.methodLink "ScaleShop$Row" (91 : Nat) ({ cls := "java/lang/Math", name := "abs", desc := "(I)I" } : Jvm.MethodName)) ∈ ws0 := zm (tb_3 (x1 (x1 (x1 (x1 (x1 (x1 (x1 (x1 (x1 (x1 (xh)))))))))))) rfl
theorem mw_589 : (Jvm.Cond.static ({ cls := "java/lang/Math", name := "abs", desc := "(I)I" } : Jvm.MethodName)) ∈ ws0 := zm (tb_3 (x1 (x1 (x1 (x1 (x1 (x1 (x1 (x1 (x1 (x1 (x1 (xh))))))))))))) rfl
theorem mw_591 : (Jvm.Cond.methodLink "ScaleShop$Law" (67 : Nat) ({ cls := "ScaleShop$Law", name := "leastArea", desc := "(II)I" } : Jvm.MethodName)) ∈ ws0 := zm (tb_3 (x1 (x1 (x1 (x1 (x1 (x1 (x1 (x1 (x1 (x1 (x1 (x1 (x1 (xh))))))))))))))) rfl
theorem mw_593 : (Jvm.Cond.instanceMethod ({ cls := "ScaleShop$Law", name := "leastArea", desc := "(II)I" } : Jvm.MethodName)) ∈ ws0 := zm (tb_3 (x1 (x1 (x1 (x1 (x1 (x1 (x1 (x1 (x1 (x1 (x1 (x1 (x1 (x1 (x1 (xh))))))))))))))))) rfl
theorem mc_yX4_leastArea : (Cond.code yX4_leastArea cX4_leastArea 5 (some .int)) ∈ ws0 := zm (tb_3 (x16 (xh))) rfl
theorem mw_595 : (Jvm.Cond.methodLink "ScaleShop$Law" (71 : Nat) ({ cls := "ScaleShop$Row", name := "copyFrom", desc := "(LScaleShop$Row;)V" } : Jvm.MethodName)) ∈ ws0 := zm (tb_3 (x16 (x1 (xh)))) rfl
theorem mw_596 : (Jvm.Cond.instanceMethod ({ cls := "ScaleShop$Row", name := "copyFrom", desc := "(LScaleShop$Row;)V" } : Jvm.MethodName)) ∈ ws0 := zm (tb_3 (x16 (x1 (x1 (xh))))) rfl
theorem mw_597 : (Jvm.Cond.selects "ScaleShop$Row" ({ cls := "ScaleShop$Row", name := "copyFrom", desc := "(LScaleShop$Row;)V" } : Jvm.MethodName) ({ cls := "ScaleShop$Row", name := "copyFrom", desc := "(LScaleShop$Row;)V" } : Jvm.MethodName)) ∈ ws0 := zm (tb_3 (x16 (x1 (x1 (x1 (xh)))))) rfl
theorem mc_yX7_copyFrom : (Cond.code yX7_copyFrom cX7_copyFrom 3 none) ∈ ws0 := zm (tb_3 (x16 (x1 (x1 (x1 (x1 (xh))))))) rfl
theorem mw_599 : (Jvm.Cond.methodLink "ScaleShop$Row" (32 : Nat) ({ cls := "ScaleShop$Row", name := "clear", desc := "(Z)V" } : Jvm.MethodName)) ∈ ws0 := zm (tb_3 (x16 (x1 (x1 (x1 (x1 (x1 (xh)))))))) rfl
theorem mw_600 : (Jvm.Cond.instanceMethod ({ cls := "ScaleShop$Row", name := "clear", desc := "(Z)V" } : Jvm.MethodName)) ∈ ws0 := zm (tb_3 (x16 (x1 (x1 (x1 (x1 (x1 (x1 (xh))))))))) rfl
theorem mw_601 : (Jvm.Cond.selects "ScaleShop$Row" ({ cls := "ScaleShop$Row", name := "clear", desc := "(Z)V" } : Jvm.MethodName) ({ cls := "ScaleShop$Row", name := "clear", desc := "(Z)V" } : Jvm.MethodName)) ∈ ws0 := zm (tb_3 (x16 (x1 (x1 (x1 (x1 (x1 (x1 (x1 (xh)))))))))) rfl
theorem mc_yX7_clear : (Cond.code yX7_clear cX7_clear 2 none) ∈ ws0 := zm (tb_3 (x16 (x1 (x1 (x1 (x1 (x1 (x1 (x1 (x1 (xh))))))))))) rfl
theorem mw_603 : (Jvm.Cond.methodLink "ScaleShop$Row" (36 : Nat) ({ cls := "ScaleShop$Row", name := "put", desc := "(II)V" } : Jvm.MethodName)) ∈ ws0 := zm (tb_3 (x16 (x1 (x1 (x1 (x1 (x1 (x1 (x1 (x1 (x1 (xh)))))))))))) rfl
theorem mw_604 : (Jvm.Cond.methodLink "ScaleShop$Law" (75 : Nat) ({ cls := "ScaleShop$Row", name := "cut", desc := "(I)V" } : Jvm.MethodName)) ∈ ws0 := zm (tb_3 (x16 (x1 (x1 (x1 (x1 (x1 (x1 (x1 (x1 (x1 (x1 (xh))))))))))))) rfl
theorem mw_605 : (Jvm.Cond.instanceMethod ({ cls := "ScaleShop$Row", name := "cut", desc := "(I)V" } : Jvm.MethodName)) ∈ ws0 := zm (tb_3 (x16 (x1 (x1 (x1 (x1 (x1 (x1 (x1 (x1 (x1 (x1 (x1 (xh)))))))))))))) rfl
theorem mw_606 : (Jvm.Cond.selects "ScaleShop$Row" ({ cls := "ScaleShop$Row", name := "cut", desc := "(I)V" } : Jvm.MethodName) ({ cls := "ScaleShop$Row", name := "cut", desc := "(I)V" } : Jvm.MethodName)) ∈ ws0 := zm (tb_3 (x16 (x1 (x1 (x1 (x1 (x1 (x1 (x1 (x1 (x1 (x1 (x1 (x1 (xh))))))))))))))) rfl
theorem mc_yX7_cut : (Cond.code yX7_cut cX7_cut 3 none) ∈ ws0 := zm (tb_3 (x16 (x1 (x1 (x1 (x1 (x1 (x1 (x1 (x1 (x1 (x1 (x1 (x1 (x1 (xh)))))))))))))))) rfl
theorem mw_608 : (Jvm.Cond.methodLink "ScaleShop$Law" (85 : Nat) ({ cls := "ScaleShop$Law", name := "isBare", desc := "(LScaleShop$Sheet;LScaleShop$Feature;II)Z" } : Jvm.MethodName)) ∈ ws0 := zm (tb_3 (x16 (x1 (x1 (x1 (x1 (x1 (x1 (x1 (x1 (x1 (x1 (x1 (x1 (x1 (x1 (xh))))))))))))))))) rfl
theorem mw_610 : (Jvm.Cond.instanceMethod ({ cls := "ScaleShop$Law", name := "isBare", desc := "(LScaleShop$Sheet;LScaleShop$Feature;II)Z" } : Jvm.MethodName)) ∈ ws0 := zm (tb_3 (x16 (x16 (xh)))) rfl
theorem mc_yX4_isBare : (Cond.code yX4_isBare cX4_isBare 7 (some .boolean)) ∈ ws0 := zm (tb_3 (x16 (x16 (x1 (xh))))) rfl
theorem mw_612 : (Jvm.Cond.methodLink "ScaleShop$Law" (98 : Nat) ({ cls := "ScaleShop$Sheet", name := "rowThere", desc := "(I)LScaleShop$Row;" } : Jvm.MethodName)) ∈ ws0 := zm (tb_3 (x16 (x16 (x1 (x1 (xh)))))) rfl
theorem mw_613 : (Jvm.Cond.instanceMethod ({ cls := "ScaleShop$Sheet", name := "rowThere", desc := "(I)LScaleShop$Row;" } : Jvm.MethodName)) ∈ ws0 := zm (tb_3 (x16 (x16 (x1 (x1 (x1 (xh))))))) rfl
theorem mw_614 : (Jvm.Cond.selects "ScaleShop$Sheet" ({ cls := "ScaleShop$Sheet", name := "rowThere", desc := "(I)LScaleShop$Row;" } : Jvm.MethodName) ({ cls := "ScaleShop$Sheet", name := "rowThere", desc := "(I)LScaleShop$Row;" } : Jvm.MethodName)) ∈ ws0 := zm (tb_3 (x16 (x16 (x1 (x1 (x1 (x1 (xh)))))))) rfl
theorem mc_yX8_rowThere : (Cond.code yX8_rowThere cX8_rowThere 3 (some (.object "ScaleShop$Row"))) ∈ ws0 := zm (tb_3 (x16 (x16 (x1 (x1 (x1 (x1 (x1 (xh))))))))) rfl
theorem mw_616 : (Jvm.Cond.methodLink "ScaleShop$Sheet" (31 : Nat) ({ cls := "ScaleShop$Sheet", name := "find", desc := "(I)LScaleShop$Feature;" } : Jvm.MethodName)) ∈ ws0 := zm (tb_3 (x16 (x16 (x1 (x1 (x1 (x1 (x1 (x1 (xh)))))))))) rfl
theorem mw_617 : (Jvm.Cond.methodLink "ScaleShop$Law" (102 : Nat) ({ cls := "ScaleShop$Sheet", name := "find", desc := "(I)LScaleShop$Feature;" } : Jvm.MethodName)) ∈ ws0 := zm (tb_3 (x16 (x16 (x1 (x1 (x1 (x1 (x1 (x1 (x1 (xh))))))))))) rfl
theorem mw_618 : (Jvm.Cond.methodLink "ScaleShop$Law" (106 : Nat) ({ cls := "ScaleShop$Row", name := "isOnSet", desc := "(II)Z" } : Jvm.MethodName)) ∈ ws0 := zm (tb_3 (x16 (x16 (x1 (x1 (x1 (x1 (x1 (x1 (x1 (x1 (xh)))))))))))) rfl
theorem mw_619 : (Jvm.Cond.instanceMethod ({ cls := "ScaleShop$Row", name := "isOnSet", desc := "(II)Z" } : Jvm.MethodName)) ∈ ws0 := zm (tb_3 (x16 (x16 (x1 (x1 (x1 (x1 (x1 (x1 (x1 (x1 (x1 (xh))))))))))))) rfl
theorem mw_620 : (Jvm.Cond.selects "ScaleShop$Row" ({ cls := "ScaleShop$Row", name := "isOnSet", desc := "(II)Z" } : Jvm.MethodName) ({ cls := "ScaleShop$Row", name := "isOnSet", desc := "(II)Z" } : Jvm.MethodName)) ∈ ws0 := zm (tb_3 (x16 (x16 (x1 (x1 (x1 (x1 (x1 (x1 (x1 (x1 (x1 (x1 (xh)))))))))))))) rfl
theorem mc_yX7_isOnSet : (Cond.code yX7_isOnSet cX7_isOnSet 4 (some .boolean)) ∈ ws0 := zm (tb_3 (x16 (x16 (x1 (x1 (x1 (x1 (x1 (x1 (x1 (x1 (x1 (x1 (x1 (xh))))))))))))))) rfl
theorem mw_622 : (Jvm.Cond.methodLink "ScaleShop$Row" (55 : Nat) ({ cls := "ScaleShop$Row", name := "parts", desc := "()I" } : Jvm.MethodName)) ∈ ws0 := zm (tb_3 (x16 (x16 (x1 (x1 (x1 (x1 (x1 (x1 (x1 (x1 (x1 (x1 (x1 (x1 (xh)))))))))))))))) rfl
theorem mw_623 : (Jvm.Cond.instanceMethod ({ cls := "ScaleShop$Row", name := "parts", desc := "()I" } : Jvm.MethodName)) ∈ ws0 := zm (tb_3 (x16 (x16 (x1 (x1 (x1 (x1 (x1 (x1 (x1 (x1 (x1 (x1 (x1 (x1 (x1 (xh))))))))))))))))) rfl
theorem mw_624 : (Jvm.Cond.selects "ScaleShop$Row" ({ cls := "ScaleShop$Row", name := "parts", desc := "()I" } : Jvm.MethodName) ({ cls := "ScaleShop$Row", name := "parts", desc := "()I" } : Jvm.MethodName)) ∈ ws0 := zm (tb_3 (x16 (x16 (x1 (x1 (x1 (x1 (x1 (x1 (x1 (x1 (x1 (x1 (x1 (x1 (x1 (x1 (xh)))))))))))))))))) rfl
theorem mc_yX7_parts : (Cond.code yX7_parts cX7_parts 1 (some .int)) ∈ ws0 := zm (tb_3 (x16 (x16 (x1 (x1 (x1 (x1 (x1 (x1 (x1 (x1 (x1 (x1 (x1 (x1 (x1 (x1 (x1 (xh))))))))))))))))))) rfl
theorem mw_626 : (Jvm.Cond.methodLink "ScaleShop$Row" (58 : Nat) ({ cls := "ScaleShop$Row", name := "isOn", desc := "(III)Z" } : Jvm.MethodName)) ∈ ws0 := zm (tb_3 (x16 (x16 (x16 (xh))))) rfl
theorem mw_627 : (Jvm.Cond.instanceMethod ({ cls := "ScaleShop$Row", name := "isOn", desc := "(III)Z" } : Jvm.MethodName)) ∈ ws0 := zm (tb_3 (x16 (x16 (x16 (x1 (xh)))))) rfl
theorem mw_628 : (Jvm.Cond.selects "ScaleShop$Row" ({ cls := "ScaleShop$Row", name := "isOn", desc := "(III)Z" } : Jvm.MethodName) ({ cls := "ScaleShop$Row", name := "isOn", desc := "(III)Z" } : Jvm.MethodName)) ∈ ws0 := zm (tb_3 (x16 (x16 (x16 (x1 (x1 (xh))))))) rfl
theorem mc_yX7_isOn : (Cond.code yX7_isOn cX7_isOn 5 (some .boolean)) ∈ ws0 := zm (tb_3 (x16 (x16 (x16 (x1 (x1 (x1 (xh)))))))) rfl
theorem mw_630 : (Jvm.Cond.methodLink "ScaleShop$Law" (89 : Nat) ({ cls := "ScaleShop$Law", name := "allows", desc := "(LScaleShop$Sheet;LScaleShop$Feature;I)Z" } : Jvm.MethodName)) ∈ ws0 := zm (tb_3 (x16 (x16 (x16 (x1 (x1 (x1 (x1 (xh))))))))) rfl
theorem mw_631 : (Jvm.Cond.instanceMethod ({ cls := "ScaleShop$Law", name := "allows", desc := "(LScaleShop$Sheet;LScaleShop$Feature;I)Z" } : Jvm.MethodName)) ∈ ws0 := zm (tb_3 (x16 (x16 (x16 (x1 (x1 (x1 (x1 (x1 (xh)))))))))) rfl
theorem mw_632 : (Jvm.Cond.selects "ScaleShop$Law" ({ cls := "ScaleShop$Law", name := "allows", desc := "(LScaleShop$Sheet;LScaleShop$Feature;I)Z" } : Jvm.MethodName) ({ cls := "ScaleShop$Law", name := "allows", desc := "(LScaleShop$Sheet;LScaleShop$Feature;I)Z" } : Jvm.MethodName)) ∈ ws0 := zm (tb_3 (x16 (x16 (x16 (x1 (x1 (x1 (x1 (x1 (x1 (xh))))))))))) rfl
theorem mc_yX4_allows : (Cond.code yX4_allows cX4_allows 9 (some .boolean)) ∈ ws0 := zm (tb_3 (x16 (x16 (x16 (x1 (x1 (x1 (x1 (x1 (x1 (x1 (xh)))))))))))) rfl
theorem mw_634 : (Jvm.Cond.methodLink "ScaleShop$Law" (110 : Nat) ({ cls := "ScaleShop$Row", name := "arePlaces", desc := "()Z" } : Jvm.MethodName)) ∈ ws0 := zm (tb_3 (x16 (x16 (x16 (x1 (x1 (x1 (x1 (x1 (x1 (x1 (x1 (xh))))))))))))) rfl
theorem mw_635 : (Jvm.Cond.instanceMethod ({ cls := "ScaleShop$Row", name := "arePlaces", desc := "()Z" } : Jvm.MethodName)) ∈ ws0 := zm (tb_3 (x16 (x16 (x16 (x1 (x1 (x1 (x1 (x1 (x1 (x1 (x1 (x1 (xh)))))))))))))) rfl
theorem mw_636 : (Jvm.Cond.selects "ScaleShop$Row" ({ cls := "ScaleShop$Row", name := "arePlaces", desc := "()Z" } : Jvm.MethodName) ({ cls := "ScaleShop$Row", name := "arePlaces", desc := "()Z" } : Jvm.MethodName)) ∈ ws0 := zm (tb_3 (x16 (x16 (x16 (x1 (x1 (x1 (x1 (x1 (x1 (x1 (x1 (x1 (x1 (xh))))))))))))))) rfl
theorem mc_yX7_arePlaces : (Cond.code yX7_arePlaces cX7_arePlaces 2 (some .boolean)) ∈ ws0 := zm (tb_3 (x16 (x16 (x16 (x1 (x1 (x1 (x1 (x1 (x1 (x1 (x1 (x1 (x1 (x1 (xh)))))))))))))))) rfl
theorem mw_639 : (Jvm.Cond.methodLink "ScaleShop$Law" (114 : Nat) ({ cls := "ScaleShop$Row", name := "previous", desc := "(I)I" } : Jvm.MethodName)) ∈ ws0 := zm (tb_3 (x16 (x16 (x16 (x1 (x1 (x1 (x1 (x1 (x1 (x1 (x1 (x1 (x1 (x1 (x1 (x1 (xh)))))))))))))))))) rfl
theorem mw_640 : (Jvm.Cond.methodLink "ScaleShop$Law" (120 : Nat) ({ cls := "ScaleShop$Row", name := "isEdgeFree", desc := "(II)Z" } : Jvm.MethodName)) ∈ ws0 := zm (tb_3 (x16 (x16 (x16 (x1 (x1 (x1 (x1 (x1 (x1 (x1 (x1 (x1 (x1 (x1 (x1 (x1 (x1 (xh))))))))))))))))))) rfl
theorem mw_641 : (Jvm.Cond.methodLink "ScaleShop$Law" (123 : Nat) ({ cls := "ScaleShop$Row", name := "isSound", desc := "(I)Z" } : Jvm.MethodName)) ∈ ws0 := zm (tb_3 (x16 (x16 (x16 (x1 (x1 (x1 (x1 (x1 (x1 (x1 (x1 (x1 (x1 (x1 (x1 (x1 (x1 (x1 (xh)))))))))))))))))))) rfl
theorem mw_642 : (Jvm.Cond.methodLink "ScaleShop$Law" (126 : Nat) ({ cls := "ScaleShop$Law", name := "measureReach", desc := "(LScaleShop$Row;I)V" } : Jvm.MethodName)) ∈ ws0 := zm (tb_3 (x16 (x16 (x16 (x16 (xh)))))) rfl
theorem mw_644 : (Jvm.Cond.instanceMethod ({ cls := "ScaleShop$Law", name := "measureReach", desc := "(LScaleShop$Row;I)V" } : Jvm.MethodName)) ∈ ws0 := zm (tb_3 (x16 (x16 (x16 (x16 (x1 (x1 (xh)))))))) rfl
theorem mc_yX4_measureReach : (Cond.code yX4_measureReach cX4_measureReach 3 none) ∈ ws0 := zm (tb_3 (x16 (x16 (x16 (x16 (x1 (x1 (x1 (xh))))))))) rfl
theorem mw_646 : (Jvm.Cond.methodLink "ScaleShop$Law" (141 : Nat) ({ cls := "ScaleShop$Box", name := "begin", desc := "(II)V" } : Jvm.MethodName)) ∈ ws0 := zm (tb_3 (x16 (x16 (x16 (x16 (x1 (x1 (x1 (x1 (xh)))))))))) rfl
theorem mw_647 : (Jvm.Cond.instanceMethod ({ cls := "ScaleShop$Box", name := "begin", desc := "(II)V" } : Jvm.MethodName)) ∈ ws0 := zm (tb_3 (x16 (x16 (x16 (x16 (x1 (x1 (x1 (x1 (x1 (xh))))))))))) rfl
theorem mw_648 : (Jvm.Cond.selects "ScaleShop$Box" ({ cls := "ScaleShop$Box", name := "begin", desc := "(II)V" } : Jvm.MethodName) ({ cls := "ScaleShop$Box", name := "begin", desc := "(II)V" } : Jvm.MethodName)) ∈ ws0 := zm (tb_3 (x16 (x16 (x16 (x16 (x1 (x1 (x1 (x1 (x1 (x1 (xh)))))))))))) rfl
theorem mc_yX0_begin : (Cond.code yX0_begin cX0_begin 3 none) ∈ ws0 := zm (tb_3 (x16 (x16 (x16 (x16 (x1 (x1 (x1 (x1 (x1 (x1 (x1 (xh))))))))))))) rfl
theorem mw_650 : (Jvm.Cond.methodLink "ScaleShop$Law" (145 : Nat) ({ cls := "ScaleShop$Box", name := "take", desc := "(II)V" } : Jvm.MethodName)) ∈ ws0 := zm (tb_3 (x16 (x16 (x16 (x16 (x1 (x1 (x1 (x1 (x1 (x1 (x1 (x1 (xh)))))))))))))) rfl
theorem mw_651 : (Jvm.Cond.instanceMethod ({ cls := "ScaleShop$Box", name := "take", desc := "(II)V" } : Jvm.MethodName)) ∈ ws0 := zm (tb_3 (x16 (x16 (x16 (x16 (x1 (x1 (x1 (x1 (x1 (x1 (x1 (x1 (x1 (xh))))))))))))))) rfl
theorem mw_652 : (Jvm.Cond.selects "ScaleShop$Box" ({ cls := "ScaleShop$Box", name := "take", desc := "(II)V" } : Jvm.MethodName) ({ cls := "ScaleShop$Box", name := "take", desc := "(II)V" } : Jvm.MethodName)) ∈ ws0 := zm (tb_3 (x16 (x16 (x16 (x16 (x1 (x1 (x1 (x1 (x1 (x1 (x1 (x1 (x1 (x1 (xh)))))))))))))))) rfl
theorem mc_yX0_take : (Cond.code yX0_take cX0_take 3 none) ∈ ws0 := zm (tb_3 (x16 (x16 (x16 (x16 (x1 (x1 (x1 (x1 (x1 (x1 (x1 (x1 (x1 (x1 (x1 (xh))))))))))))))))) rfl
theorem mw_654 : (Jvm.Cond.methodLink "ScaleShop$Law" (148 : Nat) ({ cls := "ScaleShop$Row", name := "next", desc := "(I)I" } : Jvm.MethodName)) ∈ ws0 := zm (tb_3 (x16 (x16 (x16 (x16 (x1 (x1 (x1 (x1 (x1 (x1 (x1 (x1 (x1 (x1 (x1 (x1 (xh)))))))))))))))))) rfl
theorem mw_655 : (Jvm.Cond.methodLink "ScaleShop$Law" (130 : Nat) ({ cls := "ScaleShop$Box", name := "cover", desc := "(LScaleShop$Row;)V" } : Jvm.MethodName)) ∈ ws0 := zm (tb_3 (x16 (x16 (x16 (x16 (x1 (x1 (x1 (x1 (x1 (x1 (x1 (x1 (x1 (x1 (x1 (x1 (x1 (xh))))))))))))))))))) rfl
theorem mw_656 : (Jvm.Cond.instanceMethod ({ cls := "ScaleShop$Box", name := "cover", desc := "(LScaleShop$Row;)V" } : Jvm.MethodName)) ∈ ws0 := zm (tb_3 (x16 (x16 (x16 (x16 (x1 (x1 (x1 (x1 (x1 (x1 (x1 (x1 (x1 (x1 (x1 (x1 (x1 (x1 (xh)))))))))))))))))))) rfl
theorem mw_657 : (Jvm.Cond.selects "ScaleShop$Box" ({ cls := "ScaleShop$Box", name := "cover", desc := "(LScaleShop$Row;)V" } : Jvm.MethodName) ({ cls := "ScaleShop$Box", name := "cover", desc := "(LScaleShop$Row;)V" } : Jvm.MethodName)) ∈ ws0 := zm (tb_3 (x16 (x16 (x16 (x16 (x1 (x1 (x1 (x1 (x1 (x1 (x1 (x1 (x1 (x1 (x1 (x1 (x1 (x1 (x1 (xh))))))))))))))))))))) rfl
theorem mc_yX0_cover : (Cond.code yX0_cover cX0_cover 2 none) ∈ ws0 := zm (tb_3 (x16 (x16 (x16 (x16 (x16 (xh))))))) rfl
theorem mw_659 : (Jvm.Cond.methodLink "ScaleShop$Box" (31 : Nat) ({ cls := "ScaleShop$Box", name := "begin", desc := "(II)V" } : Jvm.MethodName)) ∈ ws0 := zm (tb_3 (x16 (x16 (x16 (x16 (x16 (x1 (xh)))))))) rfl
theorem mw_660 : (Jvm.Cond.methodLink "ScaleShop$Box" (35 : Nat) ({ cls := "ScaleShop$Box", name := "stretch", desc := "(LScaleShop$Row;)V" } : Jvm.MethodName)) ∈ ws0 := zm (tb_3 (x16 (x16 (x16 (x16 (x16 (x1 (x1 (xh))))))))) rfl
theorem mw_661 : (Jvm.Cond.instanceMethod ({ cls := "ScaleShop$Box", name := "stretch", desc := "(LScaleShop$Row;)V" } : Jvm.MethodName)) ∈ ws0 := zm (tb_3 (x16 (x16 (x16 (x16 (x16 (x1 (x1 (x1 (xh)))))))))) rfl
theorem mw_662 : (Jvm.Cond.selects "ScaleShop$Box" ({ cls := "ScaleShop$Box", name := "stretch", desc := "(LScaleShop$Row;)V" } : Jvm.MethodName) ({ cls := "ScaleShop$Box", name := "stretch", desc := "(LScaleShop$Row;)V" } : Jvm.MethodName)) ∈ ws0 := zm (tb_3 (x16 (x16 (x16 (x16 (x16 (x1 (x1 (x1 (x1 (xh))))))))))) rfl
theorem mc_yX0_stretch : (Cond.code yX0_stretch cX0_stretch 3 none) ∈ ws0 := zm (tb_3 (x16 (x16 (x16 (x16 (x16 (x1 (x1 (x1 (x1 (x1 (xh)))))))))))) rfl
theorem mw_664 : (Jvm.Cond.methodLink "ScaleShop$Box" (42 : Nat) ({ cls := "ScaleShop$Box", name := "take", desc := "(II)V" } : Jvm.MethodName)) ∈ ws0 := zm (tb_3 (x16 (x16 (x16 (x16 (x16 (x1 (x1 (x1 (x1 (x1 (x1 (xh))))))))))))) rfl
theorem mw_665 : (Jvm.Cond.methodLink "ScaleShop$Law" (151 : Nat) ({ cls := "ScaleShop$Box", name := "stretch", desc := "(LScaleShop$Row;)V" } : Jvm.MethodName)) ∈ ws0 := zm (tb_3 (x16 (x16 (x16 (x16 (x16 (x1 (x1 (x1 (x1 (x1 (x1 (x1 (xh)))))))))))))) rfl
theorem mw_666 : (Jvm.Cond.methodLink "ScaleShop$Law" (133 : Nat) ({ cls := "ScaleShop$Box", name := "isApart", desc := "(LScaleShop$Box;)Z" } : Jvm.MethodName)) ∈ ws0 := zm (tb_3 (x16 (x16 (x16 (x16 (x16 (x1 (x1 (x1 (x1 (x1 (x1 (x1 (x1 (xh))))))))))))))) rfl
theorem mw_667 : (Jvm.Cond.instanceMethod ({ cls := "ScaleShop$Box", name := "isApart", desc := "(LScaleShop$Box;)Z" } : Jvm.MethodName)) ∈ ws0 := zm (tb_3 (x16 (x16 (x16 (x16 (x16 (x1 (x1 (x1 (x1 (x1 (x1 (x1 (x1 (x1 (xh)))))))))))))))) rfl
theorem mw_668 : (Jvm.Cond.selects "ScaleShop$Box" ({ cls := "ScaleShop$Box", name := "isApart", desc := "(LScaleShop$Box;)Z" } : Jvm.MethodName) ({ cls := "ScaleShop$Box", name := "isApart", desc := "(LScaleShop$Box;)Z" } : Jvm.MethodName)) ∈ ws0 := zm (tb_3 (x16 (x16 (x16 (x16 (x16 (x1 (x1 (x1 (x1 (x1 (x1 (x1 (x1 (x1 (x1 (xh))))))))))))))))) rfl
theorem mc_yX0_isApart : (Cond.code yX0_isApart cX0_isApart 2 (some .boolean)) ∈ ws0 := zm (tb_3 (x16 (x16 (x16 (x16 (x16 (x1 (x1 (x1 (x1 (x1 (x1 (x1 (x1 (x1 (x1 (x1 (xh)))))))))))))))))) rfl
theorem mw_670 : (Jvm.Cond.methodLink "ScaleShop$Box" (45 : Nat) ({ cls := "ScaleShop$Box", name := "squareApart", desc := "(LScaleShop$Box;)I" } : Jvm.MethodName)) ∈ ws0 := zm (tb_3 (x16 (x16 (x16 (x16 (x16 (x1 (x1 (x1 (x1 (x1 (x1 (x1 (x1 (x1 (x1 (x1 (x1 (xh))))))))))))))))))) rfl
theorem mw_671 : (Jvm.Cond.instanceMethod ({ cls := "ScaleShop$Box", name := "squareApart", desc := "(LScaleShop$Box;)I" } : Jvm.MethodName)) ∈ ws0 := zm (tb_3 (x16 (x16 (x16 (x16 (x16 (x1 (x1 (x1 (x1 (x1 (x1 (x1 (x1 (x1 (x1 (x1 (x1 (x1 (xh)))))))))))))))))))) rfl
theorem mw_672 : (Jvm.Cond.selects "ScaleShop$Box" ({ cls := "ScaleShop$Box", name := "squareApart", desc := "(LScaleShop$Box;)I" } : Jvm.MethodName) ({ cls := "ScaleShop$Box", name := "squareApart", desc := "(LScaleShop$Box;)I" } : Jvm.MethodName)) ∈ ws0 := zm (tb_3 (x16 (x16 (x16 (x16 (x16 (x1 (x1 (x1 (x1 (x1 (x1 (x1 (x1 (x1 (x1 (x1 (x1 (x1 (x1 (xh))))))))))))))))))))) rfl
theorem mc_yX0_squareApart : (Cond.code yX0_squareApart cX0_squareApart 4 (some .int)) ∈ ws0 := zm (tb_3 (x16 (x16 (x16 (x16 (x16 (x1 (x1 (x1 (x1 (x1 (x1 (x1 (x1 (x1 (x1 (x1 (x1 (x1 (x1 (x1 (xh)))))))))))))))))))))) rfl
theorem mw_674 : (Jvm.Cond.methodLink "ScaleShop$Box" (49 : Nat) ({ cls := "java/lang/Math", name := "max", desc := "(II)I" } : Jvm.MethodName)) ∈ ws0 := zm (tb_3 (x16 (x16 (x16 (x16 (x16 (x16 (xh)))))))) rfl
theorem mw_675 : (Jvm.Cond.methodLink "ScaleShop$Law" (137 : Nat) ({ cls := "ScaleShop$Law", name := "isAsBefore", desc := "(LScaleShop$Row;LScaleShop$Row;I)Z" } : Jvm.MethodName)) ∈ ws0 := zm (tb_3 (x16 (x16 (x16 (x16 (x16 (x16 (x1 (xh))))))))) rfl
theorem mw_677 : (Jvm.Cond.instanceMethod ({ cls := "ScaleShop$Law", name := "isAsBefore", desc := "(LScaleShop$Row;LScaleShop$Row;I)Z" } : Jvm.MethodName)) ∈ ws0 := zm (tb_3 (x16 (x16 (x16 (x16 (x16 (x16 (x1 (x1 (x1 (xh))))))))))) rfl
theorem mc_yX4_isAsBefore : (Cond.code yX4_isAsBefore cX4_isAsBefore 4 (some .boolean)) ∈ ws0 := zm (tb_3 (x16 (x16 (x16 (x16 (x16 (x16 (x1 (x1 (x1 (x1 (xh)))))))))))) rfl
theorem mw_679 : (Jvm.Cond.methodLink "ScaleShop$Law" (154 : Nat) ({ cls := "ScaleShop$Row", name := "touches", desc := "(LScaleShop$Row;)Z" } : Jvm.MethodName)) ∈ ws0 := zm (tb_3 (x16 (x16 (x16 (x16 (x16 (x16 (x1 (x1 (x1 (x1 (x1 (xh))))))))))))) rfl
theorem mw_680 : (Jvm.Cond.instanceMethod ({ cls := "ScaleShop$Row", name := "touches", desc := "(LScaleShop$Row;)Z" } : Jvm.MethodName)) ∈ ws0 := zm (tb_3 (x16 (x16 (x16 (x16 (x16 (x16 (x1 (x1 (x1 (x1 (x1 (x1 (xh)))))))))))))) rfl
theorem mw_681 : (Jvm.Cond.selects "ScaleShop$Row" ({ cls := "ScaleShop$Row", name := "touches", desc := "(LScaleShop$Row;)Z" } : Jvm.MethodName) ({ cls := "ScaleShop$Row", name := "touches", desc := "(LScaleShop$Row;)Z" } : Jvm.MethodName)) ∈ ws0 := zm (tb_3 (x16 (x16 (x16 (x16 (x16 (x16 (x1 (x1 (x1 (x1 (x1 (x1 (x1 (xh))))))))))))))) rfl
theorem mc_yX7_touches : (Cond.code yX7_touches cX7_touches 6 (some .boolean)) ∈ ws0 := zm (tb_3 (x16 (x16 (x16 (x16 (x16 (x16 (x1 (x1 (x1 (x1 (x1 (x1 (x1 (x1 (xh)))))))))))))))) rfl
theorem mw_683 : (Jvm.Cond.methodLink "ScaleShop$Law" (158 : Nat) ({ cls := "ScaleShop$Law", name := "holdsAsBefore", desc := "(LScaleShop$Row;LScaleShop$Row;)Z" } : Jvm.MethodName)) ∈ ws0 := zm (tb_3 (x16 (x16 (x16 (x16 (x16 (x16 (x1 (x1 (x1 (x1 (x1 (x1 (x1 (x1 (x1 (xh))))))))))))))))) rfl
theorem mw_685 : (Jvm.Cond.instanceMethod ({ cls := "ScaleShop$Law", name := "holdsAsBefore", desc := "(LScaleShop$Row;LScaleShop$Row;)Z" } : Jvm.MethodName)) ∈ ws0 := zm (tb_3 (x16 (x16 (x16 (x16 (x16 (x16 (x1 (x1 (x1 (x1 (x1 (x1 (x1 (x1 (x1 (x1 (x1 (xh))))))))))))))))))) rfl
theorem mc_yX4_holdsAsBefore : (Cond.code yX4_holdsAsBefore cX4_holdsAsBefore 5 (some .boolean)) ∈ ws0 := zm (tb_3 (x16 (x16 (x16 (x16 (x16 (x16 (x1 (x1 (x1 (x1 (x1 (x1 (x1 (x1 (x1 (x1 (x1 (x1 (xh)))))))))))))))))))) rfl
theorem mw_687 : (Jvm.Cond.methodLink "ScaleShop$Law" (174 : Nat) ({ cls := "ScaleShop$Row", name := "where", desc := "(II)I" } : Jvm.MethodName)) ∈ ws0 := zm (tb_3 (x16 (x16 (x16 (x16 (x16 (x16 (x1 (x1 (x1 (x1 (x1 (x1 (x1 (x1 (x1 (x1 (x1 (x1 (x1 (xh))))))))))))))))))))) rfl
theorem mw_688 : (Jvm.Cond.instanceMethod ({ cls := "ScaleShop$Row", name := "where", desc := "(II)I" } : Jvm.MethodName)) ∈ ws0 := zm (tb_3 (x16 (x16 (x16 (x16 (x16 (x16 (x1 (x1 (x1 (x1 (x1 (x1 (x1 (x1 (x1 (x1 (x1 (x1 (x1 (x1 (xh)))))))))))))))))))))) rfl
theorem mw_689 : (Jvm.Cond.selects "ScaleShop$Row" ({ cls := "ScaleShop$Row", name := "where", desc := "(II)I" } : Jvm.MethodName) ({ cls := "ScaleShop$Row", name := "where", desc := "(II)I" } : Jvm.MethodName)) ∈ ws0 := zm (tb_3 (x16 (x16 (x16 (x16 (x16 (x16 (x1 (x1 (x1 (x1 (x1 (x1 (x1 (x1 (x1 (x1 (x1 (x1 (x1 (x1 (x1 (xh))))))))))))))))))))))) rfl
theorem mc_yX7_where : (Cond.code yX7_where cX7_where 7 (some .int)) ∈ ws0 := zm (tb_3 (x16 (x16 (x16 (x16 (x16 (x16 (x16 (xh))))))))) rfl
theorem mw_691 : (Jvm.Cond.methodLink "ScaleShop$Law" (162 : Nat) ({ cls := "ScaleShop$Law", name := "isIn", desc := "(LScaleShop$Row;LScaleShop$Row;)Z" } : Jvm.MethodName)) ∈ ws0 := zm (tb_3 (x16 (x16 (x16 (x16 (x16 (x16 (x16 (x1 (xh)))))))))) rfl
theorem mw_692 : (Jvm.Cond.static ({ cls := "ScaleShop$Law", name := "isIn", desc := "(LScaleShop$Row;LScaleShop$Row;)Z" } : Jvm.MethodName)) ∈ ws0 := zm (tb_3 (x16 (x16 (x16 (x16 (x16 (x16 (x16 (x1 (x1 (xh))))))))))) rfl
theorem mc_yX4_isIn : (Cond.code yX4_isIn cX4_isIn 2 (some .boolean)) ∈ ws0 := zm (tb_3 (x16 (x16 (x16 (x16 (x16 (x16 (x16 (x1 (x1 (x1 (xh)))))))))))) rfl
theorem mw_694 : (Jvm.Cond.methodLink "ScaleShop$Law" (165 : Nat) ({ cls := "ScaleShop$Law", name := "isWayFree", desc := "(LScaleShop$Row;LScaleShop$Row;)Z" } : Jvm.MethodName)) ∈ ws0 := zm (tb_3 (x16 (x16 (x16 (x16 (x16 (x16 (x16 (x1 (x1 (x1 (x1 (xh))))))))))))) rfl
theorem mw_696 : (Jvm.Cond.instanceMethod ({ cls := "ScaleShop$Law", name := "isWayFree", desc := "(LScaleShop$Row;LScaleShop$Row;)Z" } : Jvm.MethodName)) ∈ ws0 := zm (tb_3 (x16 (x16 (x16 (x16 (x16 (x16 (x16 (x1 (x1 (x1 (x1 (x1 (x1 (xh))))))))))))))) rfl
theorem mc_yX4_isWayFree : (Cond.code yX4_isWayFree cX4_isWayFree 5 (some .boolean)) ∈ ws0 := zm (tb_3 (x16 (x16 (x16 (x16 (x16 (x16 (x16 (x1 (x1 (x1 (x1 (x1 (x1 (x1 (xh)))))))))))))))) rfl
theorem mw_698 : (Jvm.Cond.methodLink "ScaleShop$Law" (177 : Nat) ({ cls := "ScaleShop$Row", name := "clear", desc := "(Z)V" } : Jvm.MethodName)) ∈ ws0 := zm (tb_3 (x16 (x16 (x16 (x16 (x16 (x16 (x16 (x1 (x1 (x1 (x1 (x1 (x1 (x1 (x1 (xh))))))))))))))))) rfl
theorem mw_699 : (Jvm.Cond.methodLink "ScaleShop$Law" (181 : Nat) ({ cls := "ScaleShop$Row", name := "put", desc := "(II)V" } : Jvm.MethodName)) ∈ ws0 := zm (tb_3 (x16 (x16 (x16 (x16 (x16 (x16 (x16 (x1 (x1 (x1 (x1 (x1 (x1 (x1 (x1 (x1 (xh)))))))))))))))))) rfl
theorem mw_700 : (Jvm.Cond.methodLink "ScaleShop$Law" (184 : Nat) ({ cls := "ScaleShop$Row", name := "parts", desc := "()I" } : Jvm.MethodName)) ∈ ws0 := zm (tb_3 (x16 (x16 (x16 (x16 (x16 (x16 (x16 (x1 (x1 (x1 (x1 (x1 (x1 (x1 (x1 (x1 (x1 (xh))))))))))))))))))) rfl
theorem mw_701 : (Jvm.Cond.methodLink "ScaleShop$Law" (188 : Nat) ({ cls := "ScaleShop$Row", name := "partsMeet", desc := "(ILScaleShop$Row;I)Z" } : Jvm.MethodName)) ∈ ws0 := zm (tb_3 (x16 (x16 (x16 (x16 (x16 (x16 (x16 (x1 (x1 (x1 (x1 (x1 (x1 (x1 (x1 (x1 (x1 (x1 (xh)))))))))))))))))))) rfl
theorem mw_702 : (Jvm.Cond.methodLink "ScaleShop$Law" (192 : Nat) ({ cls := "ScaleShop$Row", name := "isOn", desc := "(III)Z" } : Jvm.MethodName)) ∈ ws0 := zm (tb_3 (x16 (x16 (x16 (x16 (x16 (x16 (x16 (x1 (x1 (x1 (x1 (x1 (x1 (x1 (x1 (x1 (x1 (x1 (x1 (xh))))))))))))))))))))) rfl
theorem mw_703 : (Jvm.Cond.methodLink "ScaleShop$Law" (196 : Nat) ({ cls := "ScaleShop$Law", name := "leadsTo", desc := "(II)Z" } : Jvm.MethodName)) ∈ ws0 := zm (tb_3 (x16 (x16 (x16 (x16 (x16 (x16 (x16 (x1 (x1 (x1 (x1 (x1 (x1 (x1 (x1 (x1 (x1 (x1 (x1 (x1 (xh)))))))))))))))))))))) rfl
theorem mw_705 : (Jvm.Cond.instanceMethod ({ cls := "ScaleShop$Law", name := "leadsTo", desc := "(II)Z" } : Jvm.MethodName)) ∈ ws0 := zm (tb_3 (x16 (x16 (x16 (x16 (x16 (x16 (x16 (x1 (x1 (x1 (x1 (x1 (x1 (x1 (x1 (x1 (x1 (x1 (x1 (x1 (x1 (x1 (xh)))))))))))))))))))))))) rfl
theorem mc_yX4_leadsTo : (Cond.code yX4_leadsTo cX4_leadsTo 4 (some .boolean)) ∈ ws0 := zm (tb_3 (x16 (x16 (x16 (x16 (x16 (x16 (x16 (x16 (xh)))))))))) rfl
theorem mw_707 : (Jvm.Cond.methodLink "ScaleShop$Law" (199 : Nat) ({ cls := "ScaleShop$Row", name := "turn", desc := "(III)I" } : Jvm.MethodName)) ∈ ws0 := zm (tb_3 (x16 (x16 (x16 (x16 (x16 (x16 (x16 (x16 (x1 (xh))))))))))) rfl
theorem mw_708 : (Jvm.Cond.methodLink "ScaleShop$Law" (168 : Nat) ({ cls := "ScaleShop$Law", name := "isSweptByMove", desc := "(LScaleShop$Row;LScaleShop$Row;)Z" } : Jvm.MethodName)) ∈ ws0 := zm (tb_3 (x16 (x16 (x16 (x16 (x16 (x16 (x16 (x16 (x1 (x1 (xh)))))))))))) rfl
theorem mw_710 : (Jvm.Cond.instanceMethod ({ cls := "ScaleShop$Law", name := "isSweptByMove", desc := "(LScaleShop$Row;LScaleShop$Row;)Z" } : Jvm.MethodName)) ∈ ws0 := zm (tb_3 (x16 (x16 (x16 (x16 (x16 (x16 (x16 (x16 (x1 (x1 (x1 (x1 (xh)))))))))))))) rfl
theorem mc_yX4_isSweptByMove : (Cond.code yX4_isSweptByMove cX4_isSweptByMove 7 (some .boolean)) ∈ ws0 := zm (tb_3 (x16 (x16 (x16 (x16 (x16 (x16 (x16 (x16 (x1 (x1 (x1 (x1 (x1 (xh))))))))))))))) rfl
theorem mw_712 : (Jvm.Cond.methodLink "ScaleShop$Law" (211 : Nat) ({ cls := "ScaleShop$Row", name := "edges", desc := "()I" } : Jvm.MethodName)) ∈ ws0 := zm (tb_3 (x16 (x16 (x16 (x16 (x16 (x16 (x16 (x16 (x1 (x1 (x1 (x1 (x1 (x1 (xh)))))))))))))))) rfl
theorem mw_713 : (Jvm.Cond.methodLink "ScaleShop$Law" (214 : Nat) ({ cls := "ScaleShop$Row", name := "isCorner", desc := "(III)Z" } : Jvm.MethodName)) ∈ ws0 := zm (tb_3 (x16 (x16 (x16 (x16 (x16 (x16 (x16 (x16 (x1 (x1 (x1 (x1 (x1 (x1 (x1 (xh))))))))))))))))) rfl
theorem mw_714 : (Jvm.Cond.methodLink "ScaleShop$Law" (203 : Nat) ({ cls := "ScaleShop$Law", name := "setTriangle", desc := "(LScaleShop$Row;ILScaleShop$Row;ILScaleShop$Row;I)V" } : Jvm.MethodName)) ∈ ws0 := zm (tb_3 (x16 (x16 (x16 (x16 (x16 (x16 (x16 (x16 (x1 (x1 (x1 (x1 (x1 (x1 (x1 (x1 (xh)))))))))))))))))) rfl
theorem mw_716 : (Jvm.Cond.instanceMethod ({ cls := "ScaleShop$Law", name := "setTriangle", desc := "(LScaleShop$Row;ILScaleShop$Row;ILScaleShop$Row;I)V" } : Jvm.MethodName)) ∈ ws0 := zm (tb_3 (x16 (x16 (x16 (x16 (x16 (x16 (x16 (x16 (x1 (x1 (x1 (x1 (x1 (x1 (x1 (x1 (x1 (x1 (xh)))))))))))))))))))) rfl
theorem mc_yX4_setTriangle : (Cond.code yX4_setTriangle cX4_setTriangle 7 none) ∈ ws0 := zm (tb_3 (x16 (x16 (x16 (x16 (x16 (x16 (x16 (x16 (x1 (x1 (x1 (x1 (x1 (x1 (x1 (x1 (x1 (x1 (x1 (xh))))))))))))))))))))) rfl
theorem mw_718 : (Jvm.Cond.methodLink "ScaleShop$Law" (207 : Nat) ({ cls := "ScaleShop$Law", name := "holdsCorner", desc := "(LScaleShop$Row;LScaleShop$Row;ILScaleShop$Row;I)Z" } : Jvm.MethodName)) ∈ ws0 := zm (tb_3 (x16 (x16 (x16 (x16 (x16 (x16 (x16 (x16 (x1 (x1 (x1 (x1 (x1 (x1 (x1 (x1 (x1 (x1 (x1 (x1 (xh)))))))))))))))))))))) rfl
theorem mw_720 : (Jvm.Cond.instanceMethod ({ cls := "ScaleShop$Law", name := "holdsCorner", desc := "(LScaleShop$Row;LScaleShop$Row;ILScaleShop$Row;I)Z" } : Jvm.MethodName)) ∈ ws0 := zm (tb_3 (x16 (x16 (x16 (x16 (x16 (x16 (x16 (x16 (x1 (x1 (x1 (x1 (x1 (x1 (x1 (x1 (x1 (x1 (x1 (x1 (x1 (x1 (xh)))))))))))))))))))))))) rfl
theorem mc_yX4_holdsCorner : (Cond.code yX4_holdsCorner cX4_holdsCorner 10 (some .boolean)) ∈ ws0 := zm (tb_3 (x16 (x16 (x16 (x16 (x16 (x16 (x16 (x16 (x1 (x1 (x1 (x1 (x1 (x1 (x1 (x1 (x1 (x1 (x1 (x1 (x1 (x1 (x1 (xh))))))))))))))))))))))))) rfl
theorem mw_722 : (Jvm.Cond.methodLink "ScaleShop$Law" (171 : Nat) ({ cls := "ScaleShop$Law", name := "isSweptByCut", desc := "(LScaleShop$Row;LScaleShop$Row;I)Z" } : Jvm.MethodName)) ∈ ws0 := zm (tb_3 (x16 (x16 (x16 (x16 (x16 (x16 (x16 (x16 (x16 (xh))))))))))) rfl
theorem mw_724 : (Jvm.Cond.instanceMethod ({ cls := "ScaleShop$Law", name := "isSweptByCut", desc := "(LScaleShop$Row;LScaleShop$Row;I)Z" } : Jvm.MethodName)) ∈ ws0 := zm (tb_3 (x16 (x16 (x16 (x16 (x16 (x16 (x16 (x16 (x16 (x1 (x1 (xh))))))))))))) rfl
theorem mc_yX4_isSweptByCut : (Cond.code yX4_isSweptByCut cX4_isSweptByCut 6 (some .boolean)) ∈ ws0 := zm (tb_3 (x16 (x16 (x16 (x16 (x16 (x16 (x16 (x16 (x16 (x1 (x1 (x1 (xh)))))))))))))) rfl
theorem mw_726 : (Jvm.Cond.methodLink "ScaleShop" (403 : Nat) ({ cls := "ScaleShop$Feature", name := "lose", desc := "(I)V" } : Jvm.MethodName)) ∈ ws0 := zm (tb_3 (x16 (x16 (x16 (x16 (x16 (x16 (x16 (x16 (x16 (x1 (x1 (x1 (x1 (xh))))))))))))))) rfl
theorem mw_727 : (Jvm.Cond.instanceMethod ({ cls := "ScaleShop$Feature", name := "lose", desc := "(I)V" } : Jvm.MethodName)) ∈ ws0 := zm (tb_3 (x16 (x16 (x16 (x16 (x16 (x16 (x16 (x16 (x16 (x1 (x1 (x1 (x1 (x1 (xh)))))))))))))))) rfl
theorem mw_728 : (Jvm.Cond.selects "ScaleShop$Feature" ({ cls := "ScaleShop$Feature", name := "lose", desc := "(I)V" } : Jvm.MethodName) ({ cls := "ScaleShop$Feature", name := "lose", desc := "(I)V" } : Jvm.MethodName)) ∈ ws0 := zm (tb_3 (x16 (x16 (x16 (x16 (x16 (x16 (x16 (x16 (x16 (x1 (x1 (x1 (x1 (x1 (x1 (xh))))))))))))))))) rfl
theorem mc_yX2_lose : (Cond.code yX2_lose cX2_lose 2 none) ∈ ws0 := zm (tb_3 (x16 (x16 (x16 (x16 (x16 (x16 (x16 (x16 (x16 (x1 (x1 (x1 (x1 (x1 (x1 (x1 (xh)))))))))))))))))) rfl
theorem mw_730 : (Jvm.Cond.methodLink "ScaleShop$Feature" (73 : Nat) ({ cls := "ScaleShop$Feature", name := "reshape", desc := "(LScaleShop$Row;)V" } : Jvm.MethodName)) ∈ ws0 := zm (tb_3 (x16 (x16 (x16 (x16 (x16 (x16 (x16 (x16 (x16 (x1 (x1 (x1 (x1 (x1 (x1 (x1 (x1 (xh))))))))))))))))))) rfl
theorem mw_731 : (Jvm.Cond.instanceMethod ({ cls := "ScaleShop$Feature", name := "reshape", desc := "(LScaleShop$Row;)V" } : Jvm.MethodName)) ∈ ws0 := zm (tb_3 (x16 (x16 (x16 (x16 (x16 (x16 (x16 (x16 (x16 (x1 (x1 (x1 (x1 (x1 (x1 (x1 (x1 (x1 (xh)))))))))))))))))))) rfl
theorem mw_732 : (Jvm.Cond.selects "ScaleShop$Feature" ({ cls := "ScaleShop$Feature", name := "reshape", desc := "(LScaleShop$Row;)V" } : Jvm.MethodName) ({ cls := "ScaleShop$Feature", name := "reshape", desc := "(LScaleShop$Row;)V" } : Jvm.MethodName)) ∈ ws0 := zm (tb_3 (x16 (x16 (x16 (x16 (x16 (x16 (x16 (x16 (x16 (x1 (x1 (x1 (x1 (x1 (x1 (x1 (x1 (x1 (x1 (xh))))))))))))))))))))) rfl
theorem mc_yX2_reshape : (Cond.code yX2_reshape cX2_reshape 2 none) ∈ ws0 := zm (tb_3 (x16 (x16 (x16 (x16 (x16 (x16 (x16 (x16 (x16 (x1 (x1 (x1 (x1 (x1 (x1 (x1 (x1 (x1 (x1 (x1 (xh)))))))))))))))))))))) rfl
theorem mw_734 : (Jvm.Cond.methodLink "ScaleShop$Feature" (61 : Nat) ({ cls := "ScaleShop$Feature", name := "keepFormer", desc := "()V" } : Jvm.MethodName)) ∈ ws0 := zm (tb_3 (x16 (x16 (x16 (x16 (x16 (x16 (x16 (x16 (x16 (x1 (x1 (x1 (x1 (x1 (x1 (x1 (x1 (x1 (x1 (x1 (x1 (xh))))))))))))))))))))))) rfl
theorem mw_736 : (Jvm.Cond.instanceMethod ({ cls := "ScaleShop$Feature", name := "keepFormer", desc := "()V" } : Jvm.MethodName)) ∈ ws0 := zm (tb_3 (x16 (x16 (x16 (x16 (x16 (x16 (x16 (x16 (x16 (x1 (x1 (x1 (x1 (x1 (x1 (x1 (x1 (x1 (x1 (x1 (x1 (x1 (x1 (xh))))))))))))))))))))))))) rfl
theorem mc_yX2_keepFormer : (Cond.code yX2_keepFormer cX2_keepFormer 1 none) ∈ ws0 := zm (tb_3 (x16 (x16 (x16 (x16 (x16 (x16 (x16 (x16 (x16 (x1 (x1 (x1 (x1 (x1 (x1 (x1 (x1 (x1 (x1 (x1 (x1 (x1 (x1 (x1 (xh)))))))))))))))))))))))))) rfl
theorem mw_738 : (Jvm.Cond.methodLink "ScaleShop$Feature" (57 : Nat) ({ cls := "ScaleShop$Look", name := "copy", desc := "()LScaleShop$Look;" } : Jvm.MethodName)) ∈ ws0 := zm (tb_3 (x16 (x16 (x16 (x16 (x16 (x16 (x16 (x16 (x16 (x16 (xh)))))))))))) rfl
theorem mw_739 : (Jvm.Cond.instanceMethod ({ cls := "ScaleShop$Look", name := "copy", desc := "()LScaleShop$Look;" } : Jvm.MethodName)) ∈ ws0 := zm (tb_3 (x16 (x16 (x16 (x16 (x16 (x16 (x16 (x16 (x16 (x16 (x1 (xh))))))))))))) rfl
theorem mw_740 : (Jvm.Cond.selects "ScaleShop$Look" ({ cls := "ScaleShop$Look", name := "copy", desc := "()LScaleShop$Look;" } : Jvm.MethodName) ({ cls := "ScaleShop$Look", name := "copy", desc := "()LScaleShop$Look;" } : Jvm.MethodName)) ∈ ws0 := zm (tb_3 (x16 (x16 (x16 (x16 (x16 (x16 (x16 (x16 (x16 (x16 (x1 (x1 (xh)))))))))))))) rfl
theorem mc_yX5_copy : (Cond.code yX5_copy cX5_copy 2 (some (.object "ScaleShop$Look"))) ∈ ws0 := zm (tb_3 (x16 (x16 (x16 (x16 (x16 (x16 (x16 (x16 (x16 (x16 (x1 (x1 (x1 (xh))))))))))))))) rfl
theorem mw_742 : (Jvm.Cond.classLink "ScaleShop$Look" (10 : Nat) "ScaleShop$Look") ∈ ws0 := zm (tb_3 (x16 (x16 (x16 (x16 (x16 (x16 (x16 (x16 (x16 (x16 (x1 (x1 (x1 (x1 (xh)))))))))))))))) rfl
theorem mw_743 : (Jvm.Cond.methodLink "ScaleShop$Look" (31 : Nat) ({ cls := "ScaleShop$Look", name := "<init>", desc := "(I)V" } : Jvm.MethodName)) ∈ ws0 := zm (tb_3 (x16 (x16 (x16 (x16 (x16 (x16 (x16 (x16 (x16 (x16 (x1 (x1 (x1 (x1 (x1 (xh))))))))))))))))) rfl
theorem mw_744 : (Jvm.Cond.methodLink "ScaleShop$Feature" (70 : Nat) ({ cls := "ScaleShop$Row", name := "copy", desc := "()LScaleShop$Row;" } : Jvm.MethodName)) ∈ ws0 := zm (tb_3 (x16 (x16 (x16 (x16 (x16 (x16 (x16 (x16 (x16 (x16 (x1 (x1 (x1 (x1 (x1 (x1 (xh)))))))))))))))))) rfl
theorem mw_745 : (Jvm.Cond.instanceMethod ({ cls := "ScaleShop$Row", name := "copy", desc := "()LScaleShop$Row;" } : Jvm.MethodName)) ∈ ws0 := zm (tb_3 (x16 (x16 (x16 (x16 (x16 (x16 (x16 (x16 (x16 (x16 (x1 (x1 (x1 (x1 (x1 (x1 (x1 (xh))))))))))))))))))) rfl
theorem mw_746 : (Jvm.Cond.selects "ScaleShop$Row" ({ cls := "ScaleShop$Row", name := "copy", desc := "()LScaleShop$Row;" } : Jvm.MethodName) ({ cls := "ScaleShop$Row", name := "copy", desc := "()LScaleShop$Row;" } : Jvm.MethodName)) ∈ ws0 := zm (tb_3 (x16 (x16 (x16 (x16 (x16 (x16 (x16 (x16 (x16 (x16 (x1 (x1 (x1 (x1 (x1 (x1 (x1 (x1 (xh)))))))))))))))))))) rfl
theorem mc_yX7_copy : (Cond.code yX7_copy cX7_copy 2 (some (.object "ScaleShop$Row"))) ∈ ws0 := zm (tb_3 (x16 (x16 (x16 (x16 (x16 (x16 (x16 (x16 (x16 (x16 (x1 (x1 (x1 (x1 (x1 (x1 (x1 (x1 (x1 (xh))))))))))))))))))))) rfl
theorem mw_748 : (Jvm.Cond.classLink "ScaleShop$Row" (10 : Nat) "ScaleShop$Row") ∈ ws0 := zm (tb_3 (x16 (x16 (x16 (x16 (x16 (x16 (x16 (x16 (x16 (x16 (x1 (x1 (x1 (x1 (x1 (x1 (x1 (x1 (x1 (x1 (xh)))))))))))))))))))))) rfl
theorem mw_749 : (Jvm.Cond.methodLink "ScaleShop$Row" (40 : Nat) ({ cls := "ScaleShop$Row", name := "<init>", desc := "(IZ)V" } : Jvm.MethodName)) ∈ ws0 := zm (tb_3 (x16 (x16 (x16 (x16 (x16 (x16 (x16 (x16 (x16 (x16 (x1 (x1 (x1 (x1 (x1 (x1 (x1 (x1 (x1 (x1 (x1 (xh))))))))))))))))))))))) rfl
theorem mw_750 : (Jvm.Cond.methodLink "ScaleShop$Row" (43 : Nat) ({ cls := "ScaleShop$Row", name := "copyFrom", desc := "(LScaleShop$Row;)V" } : Jvm.MethodName)) ∈ ws0 := zm (tb_3 (x16 (x16 (x16 (x16 (x16 (x16 (x16 (x16 (x16 (x16 (x1 (x1 (x1 (x1 (x1 (x1 (x1 (x1 (x1 (x1 (x1 (x1 (xh)))))))))))))))))))))))) rfl
theorem mw_751 : (Jvm.Cond.methodLink "ScaleShop$Feature" (87 : Nat) ({ cls := "ScaleShop$Row", name := "put", desc := "(II)V" } : Jvm.MethodName)) ∈ ws0 := zm (tb_3 (x16 (x16 (x16 (x16 (x16 (x16 (x16 (x16 (x16 (x16 (x1 (x1 (x1 (x1 (x1 (x1 (x1 (x1 (x1 (x1 (x1 (x1 (x1 (xh))))))))))))))))))))))))) rfl
theorem mw_752 : (Jvm.Cond.methodLink "ScaleShop$Feature" (91 : Nat) ({ cls := "ScaleShop$Row", name := "cut", desc := "(I)V" } : Jvm.MethodName)) ∈ ws0 := zm (tb_3 (x16 (x16 (x16 (x16 (x16 (x16 (x16 (x16 (x16 (x16 (x1 (x1 (x1 (x1 (x1 (x1 (x1 (x1 (x1 (x1 (x1 (x1 (x1 (x1 (xh)))))))))))))))))))))))))) rfl
theorem mw_753 : (Jvm.Cond.methodLink "ScaleShop" (154 : Nat) ({ cls := "ScaleShop", name := "book", desc := "(IIILScaleShop$Feature;)Z" } : Jvm.MethodName)) ∈ ws0 := zm (tb_3 (x16 (x16 (x16 (x16 (x16 (x16 (x16 (x16 (x16 (x16 (x1 (x1 (x1 (x1 (x1 (x1 (x1 (x1 (x1 (x1 (x1 (x1 (x1 (x1 (x1 (xh))))))))))))))))))))))))))) rfl
theorem mw_755 : (Jvm.Cond.instanceMethod ({ cls := "ScaleShop", name := "book", desc := "(IIILScaleShop$Feature;)Z" } : Jvm.MethodName)) ∈ ws0 := zm (tb_3 (x16 (x16 (x16 (x16 (x16 (x16 (x16 (x16 (x16 (x16 (x16 (x1 (xh)))))))))))))) rfl
theorem mc_yX10_book : (Cond.code yX10_book cX10_book 8 (some .boolean)) ∈ ws0 := zm (tb_3 (x16 (x16 (x16 (x16 (x16 (x16 (x16 (x16 (x16 (x16 (x16 (x1 (x1 (xh))))))))))))))) rfl
theorem mw_757 : (Jvm.Cond.classLink "ScaleShop" (251 : Nat) "ScaleShop$Step") ∈ ws0 := zm (tb_3 (x16 (x16 (x16 (x16 (x16 (x16 (x16 (x16 (x16 (x16 (x16 (x1 (x1 (x1 (xh)))))))))))))))) rfl
theorem mw_758 : (Jvm.Cond.instantiable "ScaleShop$Step" (5 : Nat)) ∈ ws0 := zm (tb_3 (x16 (x16 (x16 (x16 (x16 (x16 (x16 (x16 (x16 (x16 (x16 (x1 (x1 (x1 (x1 (xh))))))))))))))))) rfl
theorem mw_759 : (Jvm.Cond.methodLink "ScaleShop" (378 : Nat) ({ cls := "ScaleShop$Step", name := "<init>", desc := "(IIILScaleShop$Feature;)V" } : Jvm.MethodName)) ∈ ws0 := zm (tb_3 (x16 (x16 (x16 (x16 (x16 (x16 (x16 (x16 (x16 (x16 (x16 (x1 (x1 (x1 (x1 (x1 (xh)))))))))))))))))) rfl
theorem mw_760 : (Jvm.Cond.instanceMethod ({ cls := "ScaleShop$Step", name := "<init>", desc := "(IIILScaleShop$Feature;)V" } : Jvm.MethodName)) ∈ ws0 := zm (tb_3 (x16 (x16 (x16 (x16 (x16 (x16 (x16 (x16 (x16 (x16 (x16 (x1 (x1 (x1 (x1 (x1 (x1 (xh))))))))))))))))))) rfl
theorem mc_yX9_init : (Cond.code yX9_init cX9_init 5 none) ∈ ws0 := zm (tb_3 (x16 (x16 (x16 (x16 (x16 (x16 (x16 (x16 (x16 (x16 (x16 (x1 (x1 (x1 (x1 (x1 (x1 (x1 (xh)))))))))))))))))))) rfl
theorem mw_762 : (Jvm.Cond.methodLink "ScaleShop$Step" (1 : Nat) ({ cls := "java/lang/Object", name := "<init>", desc := "()V" } : Jvm.MethodName)) ∈ ws0 := zm (tb_3 (x16 (x16 (x16 (x16 (x16 (x16 (x16 (x16 (x16 (x16 (x16 (x1 (x1 (x1 (x1 (x1 (x1 (x1 (x1 (xh))))))))))))))))))))) rfl
theorem mw_763 : (Jvm.Cond.fieldLink "ScaleShop$Step" (13 : Nat) "ScaleShop$Step" "which" "I") ∈ ws0 := zm (tb_3 (x16 (x16 (x16 (x16 (x16 (x16 (x16 (x16 (x16 (x16 (x16 (x1 (x1 (x1 (x1 (x1 (x1 (x1 (x1 (x1 (xh)))))))))))))))))))))) rfl
theorem mw_764 : (Jvm.Cond.fieldLink "ScaleShop" (354 : Nat) "ScaleShop$Step" "which" "I") ∈ ws0 := zm (tb_3 (x16 (x16 (x16 (x16 (x16 (x16 (x16 (x16 (x16 (x16 (x16 (x1 (x1 (x1 (x1 (x1 (x1 (x1 (x1 (x1 (x1 (xh))))))))))))))))))))))) rfl
theorem mw_765 : (Jvm.Cond.fieldLink "ScaleShop$Step" (17 : Nat) "ScaleShop$Step" "first" "I") ∈ ws0 := zm (tb_3 (x16 (x16 (x16 (x16 (x16 (x16 (x16 (x16 (x16 (x16 (x16 (x1 (x1 (x1 (x1 (x1 (x1 (x1 (x1 (x1 (x1 (x1 (xh)))))))))))))))))))))))) rfl
theorem mw_766 : (Jvm.Cond.fieldLink "ScaleShop" (357 : Nat) "ScaleShop$Step" "first" "I") ∈ ws0 := zm (tb_3 (x16 (x16 (x16 (x16 (x16 (x16 (x16 (x16 (x16 (x16 (x16 (x1 (x1 (x1 (x1 (x1 (x1 (x1 (x1 (x1 (x1 (x1 (x1 (xh))))))))))))))))))))))))) rfl
theorem mw_767 : (Jvm.Cond.fieldLink "ScaleShop$Step" (20 : Nat) "ScaleShop$Step" "amount" "I") ∈ ws0 := zm (tb_3 (x16 (x16 (x16 (x16 (x16 (x16 (x16 (x16 (x16 (x16 (x16 (x1 (x1 (x1 (x1 (x1 (x1 (x1 (x1 (x1 (x1 (x1 (x1 (x1 (xh)))))))))))))))))))))))))) rfl
theorem mw_768 : (Jvm.Cond.fieldLink "ScaleShop" (360 : Nat) "ScaleShop$Step" "amount" "I") ∈ ws0 := zm (tb_3 (x16 (x16 (x16 (x16 (x16 (x16 (x16 (x16 (x16 (x16 (x16 (x1 (x1 (x1 (x1 (x1 (x1 (x1 (x1 (x1 (x1 (x1 (x1 (x1 (x1 (xh))))))))))))))))))))))))))) rfl
theorem mw_769 : (Jvm.Cond.fieldLink "ScaleShop$Step" (23 : Nat) "ScaleShop$Step" "made" "LScaleShop$Feature;") ∈ ws0 := zm (tb_3 (x16 (x16 (x16 (x16 (x16 (x16 (x16 (x16 (x16 (x16 (x16 (x1 (x1 (x1 (x1 (x1 (x1 (x1 (x1 (x1 (x1 (x1 (x1 (x1 (x1 (x1 (xh)))))))))))))))))))))))))))) rfl
theorem mw_770 : (Jvm.Cond.fieldLink "ScaleShop" (256 : Nat) "ScaleShop$Step" "made" "LScaleShop$Feature;") ∈ ws0 := zm (tb_3 (x16 (x16 (x16 (x16 (x16 (x16 (x16 (x16 (x16 (x16 (x16 (x16 (xh)))))))))))))) rfl
theorem mw_771 : (Jvm.Cond.fieldLink "ScaleShop$Step" (7 : Nat) "ScaleShop$Step" "changes" "LScaleShop$Change;") ∈ ws0 := zm (tb_3 (x16 (x16 (x16 (x16 (x16 (x16 (x16 (x16 (x16 (x16 (x16 (x16 (x1 (xh))))))))))))))) rfl
theorem mw_772 : (Jvm.Cond.fieldLink "ScaleShop" (386 : Nat) "ScaleShop$Step" "changes" "LScaleShop$Change;") ∈ ws0 := zm (tb_3 (x16 (x16 (x16 (x16 (x16 (x16 (x16 (x16 (x16 (x16 (x16 (x16 (x1 (x1 (xh)))))))))))))))) rfl
theorem mw_784 : (Jvm.Cond.classLink "ScaleShop" (384 : Nat) "ScaleShop$Change") ∈ ws0 := zm (tb_3 (x16 (x16 (x16 (x16 (x16 (x16 (x16 (x16 (x16 (x16 (x16 (x16 (x1 (x1 (x1 (x1 (x1 (x1 (x1 (x1 (x1 (x1 (x1 (x1 (x1 (x1 (xh)))))))))))))))))))))))))))) rfl
theorem mw_785 : (Jvm.Cond.instantiable "ScaleShop$Change" (4 : Nat)) ∈ ws0 := zm (tb_3 (x16 (x16 (x16 (x16 (x16 (x16 (x16 (x16 (x16 (x16 (x16 (x16 (x1 (x1 (x1 (x1 (x1 (x1 (x1 (x1 (x1 (x1 (x1 (x1 (x1 (x1 (x1 (xh))))))))))))))))))))))))))))) rfl
theorem mw_786 : (Jvm.Cond.methodLink "ScaleShop" (390 : Nat) ({ cls := "ScaleShop$Change", name := "<init>", desc := "(LScaleShop$Feature;LScaleShop$Change;)V" } : Jvm.MethodName)) ∈ ws0 := zm (tb_3 (x16 (x16 (x16 (x16 (x16 (x16 (x16 (x16 (x16 (x16 (x16 (x16 (x16 (xh))))))))))))))) rfl
theorem mw_787 : (Jvm.Cond.instanceMethod ({ cls := "ScaleShop$Change", name := "<init>", desc := "(LScaleShop$Feature;LScaleShop$Change;)V" } : Jvm.MethodName)) ∈ ws0 := zm (tb_3 (x16 (x16 (x16 (x16 (x16 (x16 (x16 (x16 (x16 (x16 (x16 (x16 (x16 (x1 (xh)))))))))))))))) rfl
theorem mc_yX1_init : (Cond.code yX1_init cX1_init 3 none) ∈ ws0 := zm (tb_3 (x16 (x16 (x16 (x16 (x16 (x16 (x16 (x16 (x16 (x16 (x16 (x16 (x16 (x1 (x1 (xh))))))))))))))))) rfl
theorem mw_789 : (Jvm.Cond.methodLink "ScaleShop$Change" (1 : Nat) ({ cls := "java/lang/Object", name := "<init>", desc := "()V" } : Jvm.MethodName)) ∈ ws0 := zm (tb_3 (x16 (x16 (x16 (x16 (x16 (x16 (x16 (x16 (x16 (x16 (x16 (x16 (x16 (x1 (x1 (x1 (xh)))))))))))))))))) rfl
theorem mw_790 : (Jvm.Cond.fieldLink "ScaleShop$Change" (7 : Nat) "ScaleShop$Change" "feature" "LScaleShop$Feature;") ∈ ws0 := zm (tb_3 (x16 (x16 (x16 (x16 (x16 (x16 (x16 (x16 (x16 (x16 (x16 (x16 (x16 (x1 (x1 (x1 (x1 (xh))))))))))))))))))) rfl
theorem mw_791 : (Jvm.Cond.fieldLink "ScaleShop$Step" (27 : Nat) "ScaleShop$Change" "feature" "LScaleShop$Feature;") ∈ ws0 := zm (tb_3 (x16 (x16 (x16 (x16 (x16 (x16 (x16 (x16 (x16 (x16 (x16 (x16 (x16 (x1 (x1 (x1 (x1 (x1 (xh)))))))))))))))))))) rfl
theorem mw_792 : (Jvm.Cond.fieldLink "ScaleShop$Change" (19 : Nat) "ScaleShop$Change" "before" "LScaleShop$Look;") ∈ ws0 := zm (tb_3 (x16 (x16 (x16 (x16 (x16 (x16 (x16 (x16 (x16 (x16 (x16 (x16 (x16 (x1 (x1 (x1 (x1 (x1 (x1 (xh))))))))))))))))))))) rfl
theorem mw_793 : (Jvm.Cond.fieldLink "ScaleShop$Step" (32 : Nat) "ScaleShop$Change" "before" "LScaleShop$Look;") ∈ ws0 := zm (tb_3 (x16 (x16 (x16 (x16 (x16 (x16 (x16 (x16 (x16 (x16 (x16 (x16 (x16 (x1 (x1 (x1 (x1 (x1 (x1 (x1 (xh)))))))))))))))))))))) rfl
theorem mw_794 : (Jvm.Cond.fieldLink "ScaleShop$Change" (25 : Nat) "ScaleShop$Change" "after" "LScaleShop$Look;") ∈ ws0 := zm (tb_3 (x16 (x16 (x16 (x16 (x16 (x16 (x16 (x16 (x16 (x16 (x16 (x16 (x16 (x1 (x1 (x1 (x1 (x1 (x1 (x1 (x1 (xh))))))))))))))))))))))) rfl
theorem mw_795 : (Jvm.Cond.fieldLink "ScaleShop$Step" (44 : Nat) "ScaleShop$Change" "after" "LScaleShop$Look;") ∈ ws0 := zm (tb_3 (x16 (x16 (x16 (x16 (x16 (x16 (x16 (x16 (x16 (x16 (x16 (x16 (x16 (x1 (x1 (x1 (x1 (x1 (x1 (x1 (x1 (x1 (xh)))))))))))))))))))))))) rfl
theorem mw_796 : (Jvm.Cond.fieldLink "ScaleShop$Change" (28 : Nat) "ScaleShop$Change" "next" "LScaleShop$Change;") ∈ ws0 := zm (tb_3 (x16 (x16 (x16 (x16 (x16 (x16 (x16 (x16 (x16 (x16 (x16 (x16 (x16 (x1 (x1 (x1 (x1 (x1 (x1 (x1 (x1 (x1 (x1 (xh))))))))))))))))))))))))) rfl
theorem mw_797 : (Jvm.Cond.fieldLink "ScaleShop$Step" (41 : Nat) "ScaleShop$Change" "next" "LScaleShop$Change;") ∈ ws0 := zm (tb_3 (x16 (x16 (x16 (x16 (x16 (x16 (x16 (x16 (x16 (x16 (x16 (x16 (x16 (x1 (x1 (x1 (x1 (x1 (x1 (x1 (x1 (x1 (x1 (x1 (xh)))))))))))))))))))))))))) rfl
theorem mw_807 : (Jvm.Cond.methodLink "ScaleShop" (393 : Nat) ({ cls := "java/util/ArrayList", name := "add", desc := "(Ljava/lang/Object;)Z" } : Jvm.MethodName)) ∈ ws0 := zm (tb_3 (x16 (x16 (x16 (x16 (x16 (x16 (x16 (x16 (x16 (x16 (x16 (x16 (x16 (x16 (x1 (x1 (x1 (x1 (x1 (xh))))))))))))))))))))) rfl
theorem mw_808 : (Jvm.Cond.instanceMethod ({ cls := "java/util/ArrayList", name := "add", desc := "(Ljava/lang/Object;)Z" } : Jvm.MethodName)) ∈ ws0 := zm (tb_3 (x16 (x16 (x16 (x16 (x16 (x16 (x16 (x16 (x16 (x16 (x16 (x16 (x16 (x16 (x1 (x1 (x1 (x1 (x1 (x1 (xh)))))))))))))))))))))) rfl
theorem mw_809 : (Jvm.Cond.selects "java/util/ArrayList" ({ cls := "java/util/ArrayList", name := "add", desc := "(Ljava/lang/Object;)Z" } : Jvm.MethodName) ({ cls := "java/util/ArrayList", name := "add", desc := "(Ljava/lang/Object;)Z" } : Jvm.MethodName)) ∈ ws0 := zm (tb_3 (x16 (x16 (x16 (x16 (x16 (x16 (x16 (x16 (x16 (x16 (x16 (x16 (x16 (x16 (x1 (x1 (x1 (x1 (x1 (x1 (x1 (xh))))))))))))))))))))))) rfl
theorem mc_yJx4a65c_add_9ea2d : (Cond.code yJx4a65c_add_9ea2d cJx4a65c_add_9ea2d 2 (some .boolean)) ∈ ws0 := zm (tb_3 (x16 (x16 (x16 (x16 (x16 (x16 (x16 (x16 (x16 (x16 (x16 (x16 (x16 (x16 (x1 (x1 (x1 (x1 (x1 (x1 (x1 (x1 (xh)))))))))))))))))))))))) rfl
theorem mw_811 : (Jvm.Cond.methodLink "java/util/ArrayList" (131 : Nat) ({ cls := "java/util/ArrayList", name := "add", desc := "(Ljava/lang/Object;[Ljava/lang/Object;I)V" } : Jvm.MethodName)) ∈ ws0 := zm (tb_3 (x16 (x16 (x16 (x16 (x16 (x16 (x16 (x16 (x16 (x16 (x16 (x16 (x16 (x16 (x1 (x1 (x1 (x1 (x1 (x1 (x1 (x1 (x1 (xh))))))))))))))))))))))))) rfl
theorem mw_813 : (Jvm.Cond.instanceMethod ({ cls := "java/util/ArrayList", name := "add", desc := "(Ljava/lang/Object;[Ljava/lang/Object;I)V" } : Jvm.MethodName)) ∈ ws0 := zm (tb_3 (x16 (x16 (x16 (x16 (x16 (x16 (x16 (x16 (x16 (x16 (x16 (x16 (x16 (x16 (x1 (x1 (x1 (x1 (x1 (x1 (x1 (x1 (x1 (x1 (x1 (xh))))))))))))))))))))))))))) rfl
theorem mc_yJx4a65c_add_72be8 : (Cond.code yJx4a65c_add_72be8 cJx4a65c_add_72be8 4 none) ∈ ws0 := zm (tb_3 (x16 (x16 (x16 (x16 (x16 (x16 (x16 (x16 (x16 (x16 (x16 (x16 (x16 (x16 (x1 (x1 (x1 (x1 (x1 (x1 (x1 (x1 (x1 (x1 (x1 (x1 (xh)))))))))))))))))))))))))))) rfl
theorem mw_815 : (Jvm.Cond.methodLink "java/util/ArrayList" (129 : Nat) ({ cls := "java/util/ArrayList", name := "grow", desc := "()[Ljava/lang/Object;" } : Jvm.MethodName)) ∈ ws0 := zm (tb_3 (x16 (x16 (x16 (x16 (x16 (x16 (x16 (x16 (x16 (x16 (x16 (x16 (x16 (x16 (x1 (x1 (x1 (x1 (x1 (x1 (x1 (x1 (x1 (x1 (x1 (x1 (x1 (xh))))))))))))))))))))))))))))) rfl
theorem mw_817 : (Jvm.Cond.instanceMethod ({ cls := "java/util/ArrayList", name := "grow", desc := "()[Ljava/lang/Object;" } : Jvm.MethodName)) ∈ ws0 := zm (tb_3 (x16 (x16 (x16 (x16 (x16 (x16 (x16 (x16 (x16 (x16 (x16 (x16 (x16 (x16 (x1 (x1 (x1 (x1 (x1 (x1 (x1 (x1 (x1 (x1 (x1 (x1 (x1 (x1 (x1 (xh))))))))))))))))))))))))))))))) rfl
theorem mc_yJx4a65c_grow_d5877 : (Cond.code yJx4a65c_grow_d5877 cJx4a65c_grow_d5877 1 (some (.array (.object "java/lang/Object")))) ∈ ws0 := zm (tb_4 (xh)) rfl
theorem mw_819 : (Jvm.Cond.methodLink "java/util/ArrayList" (69 : Nat) ({ cls := "java/util/ArrayList", name := "grow", desc := "(I)[Ljava/lang/Object;" } : Jvm.MethodName)) ∈ ws0 := zm (tb_4 (x1 (xh))) rfl
theorem mw_821 : (Jvm.Cond.instanceMethod ({ cls := "java/util/ArrayList", name := "grow", desc := "(I)[Ljava/lang/Object;" } : Jvm.MethodName)) ∈ ws0 := zm (tb_4 (x1 (x1 (x1 (xh))))) rfl
theorem mc_yJx4a65c_grow_92f84 : (Cond.code yJx4a65c_grow_92f84 cJx4a65c_grow_92f84 4 (some (.array (.object "java/lang/Object")))) ∈ ws0 := zm (tb_4 (x1 (x1 (x1 (x1 (xh)))))) rfl
theorem mw_823 : (Jvm.Cond.methodLink "java/util/ArrayList" (73 : Nat) ({ cls := "jdk/internal/util/ArraysSupport", name := "newLength", desc := "(III)I" } : Jvm.MethodName)) ∈ ws0 := zm (tb_4 (x1 (x1 (x1 (x1 (x1 (xh))))))) rfl
theorem mw_824 : (Jvm.Cond.static ({ cls := "jdk/internal/util/ArraysSupport", name := "newLength", desc := "(III)I" } : Jvm.MethodName)) ∈ ws0 := zm (tb_4 (x1 (x1 (x1 (x1 (x1 (x1 (xh)))))))) rfl
theorem mc_yJ8_newLength_cabcc : (Cond.code yJ8_newLength_cabcc cJ8_newLength_cabcc 4 (some .int)) ∈ ws0 := zm (tb_4 (x1 (x1 (x1 (x1 (x1 (x1 (x1 (xh))))))))) rfl
theorem mw_826 : (Jvm.Cond.methodLink "jdk/internal/util/ArraysSupport" (194 : Nat) ({ cls := "java/lang/Math", name := "max", desc := "(II)I" } : Jvm.MethodName)) ∈ ws0 := zm (tb_4 (x1 (x1 (x1 (x1 (x1 (x1 (x1 (x1 (xh)))))))))) rfl
theorem mw_827 : (Jvm.Cond.constant "jdk/internal/util/ArraysSupport" (200 : Nat) (2147483639 : Int32)) ∈ ws0 := zm (tb_4 (x1 (x1 (x1 (x1 (x1 (x1 (x1 (x1 (x1 (xh))))))))))) rfl
theorem mw_831 : (Jvm.Cond.methodLink "java/util/ArrayList" (66 : Nat) ({ cls := "java/util/Arrays", name := "copyOf", desc := "([Ljava/lang/Object;I)[Ljava/lang/Object;" } : Jvm.MethodName)) ∈ ws0 := zm (tb_4 (x1 (x1 (x1 (x1 (x1 (x1 (x1 (x1 (x1 (x1 (x1 (x1 (x1 (xh))))))))))))))) rfl
theorem mw_832 : (Jvm.Cond.static ({ cls := "java/util/Arrays", name := "copyOf", desc := "([Ljava/lang/Object;I)[Ljava/lang/Object;" } : Jvm.MethodName)) ∈ ws0 := zm (tb_4 (x1 (x1 (x1 (x1 (x1 (x1 (x1 (x1 (x1 (x1 (x1 (x1 (x1 (x1 (xh)))))))))))))))) rfl
theorem mc_yJ7_copyOf_1904c : (Cond.code yJ7_copyOf_1904c cJ7_copyOf_1904c 2 (some (.array (.object "java/lang/Object")))) ∈ ws0 := zm (tb_4 (x1 (x1 (x1 (x1 (x1 (x1 (x1 (x1 (x1 (x1 (x1 (x1 (x1 (x1 (x1 (xh))))))))))))))))) rfl
theorem mw_834 : (Jvm.Cond.methodLink "java/util/Arrays" (86 : Nat) ({ cls := "java/lang/Object", name := "getClass", desc := "()Ljava/lang/Class;" } : Jvm.MethodName)) ∈ ws0 := zm (tb_4 (x16 (xh))) rfl
theorem mw_835 : (Jvm.Cond.instanceMethod ({ cls := "java/lang/Object", name := "getClass", desc := "()Ljava/lang/Class;" } : Jvm.MethodName)) ∈ ws0 := zm (tb_4 (x16 (x1 (xh)))) rfl
theorem mw_851 : (Jvm.Cond.methodLink "java/util/Arrays" (300 : Nat) ({ cls := "java/util/Arrays", name := "copyOf", desc := "([Ljava/lang/Object;ILjava/lang/Class;)[Ljava/lang/Object;" } : Jvm.MethodName)) ∈ ws0 := zm (tb_4 (x16 (x16 (x1 (xh))))) rfl
theorem mw_852 : (Jvm.Cond.static ({ cls := "java/util/Arrays", name := "copyOf", desc := "([Ljava/lang/Object;ILjava/lang/Class;)[Ljava/lang/Object;" } : Jvm.MethodName)) ∈ ws0 := zm (tb_4 (x16 (x16 (x1 (x1 (xh)))))) rfl
theorem mc_yJ7_copyOf_6403c : (Cond.code yJ7_copyOf_6403c cJ7_copyOf_6403c 4 (some (.array (.object "java/lang/Object")))) ∈ ws0 := zm (tb_4 (x16 (x16 (x1 (x1 (x1 (xh))))))) rfl
theorem mw_854 : (Jvm.Cond.classLink "java/util/Arrays" (110 : Nat) "[Ljava/lang/Object;") ∈ ws0 := zm (tb_4 (x16 (x16 (x1 (x1 (x1 (x1 (xh)))))))) rfl
theorem mw_856 : (Jvm.Cond.classLink "java/util/Arrays" (2 : Nat) "java/lang/Object") ∈ ws0 := zm (tb_4 (x16 (x16 (x1 (x1 (x1 (x1 (x1 (x1 (xh)))))))))) rfl
theorem mw_857 : (Jvm.Cond.methodLink "java/util/Arrays" (304 : Nat) ({ cls := "java/lang/Math", name := "min", desc := "(II)I" } : Jvm.MethodName)) ∈ ws0 := zm (tb_4 (x16 (x16 (x1 (x1 (x1 (x1 (x1 (x1 (x1 (xh))))))))))) rfl
theorem mw_858 : (Jvm.Cond.static ({ cls := "java/lang/Math", name := "min", desc := "(II)I" } : Jvm.MethodName)) ∈ ws0 := zm (tb_4 (x16 (x16 (x1 (x1 (x1 (x1 (x1 (x1 (x1 (x1 (xh)))))))))))) rfl
theorem mw_860 : (Jvm.Cond.methodLink "java/util/Arrays" (150 : Nat) ({ cls := "java/lang/System", name := "arraycopy", desc := "(Ljava/lang/Object;ILjava/lang/Object;II)V" } : Jvm.MethodName)) ∈ ws0 := zm (tb_4 (x16 (x16 (x1 (x1 (x1 (x1 (x1 (x1 (x1 (x1 (x1 (x1 (xh)))))))))))))) rfl
theorem mw_861 : (Jvm.Cond.methodLink "java/util/ArrayList" (79 : Nat) ({ cls := "java/lang/Math", name := "max", desc := "(II)I" } : Jvm.MethodName)) ∈ ws0 := zm (tb_4 (x16 (x16 (x1 (x1 (x1 (x1 (x1 (x1 (x1 (x1 (x1 (x1 (x1 (xh))))))))))))))) rfl
theorem mw_862 : (Jvm.Cond.classLink "java/util/ArrayList" (7 : Nat) "java/lang/Object") ∈ ws0 := zm (tb_4 (x16 (x16 (x1 (x1 (x1 (x1 (x1 (x1 (x1 (x1 (x1 (x1 (x1 (x1 (xh)))))))))))))))) rfl
theorem mw_863 : (Jvm.Cond.methodLink "ScaleShopLaw" (37 : Nat) ({ cls := "ScaleShop", name := "smooth", desc := "(I)Z" } : Jvm.MethodName)) ∈ ws0 := zm (tb_4 (x16 (x16 (x1 (x1 (x1 (x1 (x1 (x1 (x1 (x1 (x1 (x1 (x1 (x1 (x1 (xh))))))))))))))))) rfl
theorem mw_864 : (Jvm.Cond.instanceMethod ({ cls := "ScaleShop", name := "smooth", desc := "(I)Z" } : Jvm.MethodName)) ∈ ws0 := zm (tb_4 (x16 (x16 (x1 (x1 (x1 (x1 (x1 (x1 (x1 (x1 (x1 (x1 (x1 (x1 (x1 (x1 (xh)))))))))))))))))) rfl
theorem mw_865 : (Jvm.Cond.selects "ScaleShop" ({ cls := "ScaleShop", name := "smooth", desc := "(I)Z" } : Jvm.MethodName) ({ cls := "ScaleShop", name := "smooth", desc := "(I)Z" } : Jvm.MethodName)) ∈ ws0 := zm (tb_4 (x16 (x16 (x1 (x1 (x1 (x1 (x1 (x1 (x1 (x1 (x1 (x1 (x1 (x1 (x1 (x1 (x1 (xh))))))))))))))))))) rfl
theorem mc_yX10_smooth : (Cond.code yX10_smooth cX10_smooth 4 (some .boolean)) ∈ ws0 := zm (tb_4 (x16 (x16 (x16 (xh))))) rfl
theorem mw_867 : (Jvm.Cond.methodLink "ScaleShop" (161 : Nat) ({ cls := "ScaleShop$Row", name := "smoothFrom", desc := "(LScaleShop$Row;)V" } : Jvm.MethodName)) ∈ ws0 := zm (tb_4 (x16 (x16 (x16 (x1 (xh)))))) rfl
theorem mw_868 : (Jvm.Cond.instanceMethod ({ cls := "ScaleShop$Row", name := "smoothFrom", desc := "(LScaleShop$Row;)V" } : Jvm.MethodName)) ∈ ws0 := zm (tb_4 (x16 (x16 (x16 (x1 (x1 (xh))))))) rfl
theorem mw_869 : (Jvm.Cond.selects "ScaleShop$Row" ({ cls := "ScaleShop$Row", name := "smoothFrom", desc := "(LScaleShop$Row;)V" } : Jvm.MethodName) ({ cls := "ScaleShop$Row", name := "smoothFrom", desc := "(LScaleShop$Row;)V" } : Jvm.MethodName)) ∈ ws0 := zm (tb_4 (x16 (x16 (x16 (x1 (x1 (x1 (xh)))))))) rfl
theorem mc_yX7_smoothFrom : (Cond.code yX7_smoothFrom cX7_smoothFrom 5 none) ∈ ws0 := zm (tb_4 (x16 (x16 (x16 (x1 (x1 (x1 (x1 (xh))))))))) rfl
theorem mw_871 : (Jvm.Cond.methodLink "ScaleShop$Row" (94 : Nat) ({ cls := "ScaleShop$Row", name := "isEnd", desc := "(I)Z" } : Jvm.MethodName)) ∈ ws0 := zm (tb_4 (x16 (x16 (x16 (x1 (x1 (x1 (x1 (x1 (xh)))))))))) rfl
theorem mw_872 : (Jvm.Cond.methodLink "ScaleShop" (165 : Nat) ({ cls := "ScaleShop", name := "moveTo", desc := "(LScaleShop$Feature;II)Z" } : Jvm.MethodName)) ∈ ws0 := zm (tb_4 (x16 (x16 (x16 (x1 (x1 (x1 (x1 (x1 (x1 (xh))))))))))) rfl
theorem mw_874 : (Jvm.Cond.instanceMethod ({ cls := "ScaleShop", name := "moveTo", desc := "(LScaleShop$Feature;II)Z" } : Jvm.MethodName)) ∈ ws0 := zm (tb_4 (x16 (x16 (x16 (x1 (x1 (x1 (x1 (x1 (x1 (x1 (x1 (xh))))))))))))) rfl
theorem mc_yX10_moveTo : (Cond.code yX10_moveTo cX10_moveTo 4 (some .boolean)) ∈ ws0 := zm (tb_4 (x16 (x16 (x16 (x1 (x1 (x1 (x1 (x1 (x1 (x1 (x1 (x1 (xh)))))))))))))) rfl
theorem mw_876 : (Jvm.Cond.methodLink "ScaleShop" (195 : Nat) ({ cls := "ScaleShop$Law", name := "allows", desc := "(LScaleShop$Sheet;LScaleShop$Feature;I)Z" } : Jvm.MethodName)) ∈ ws0 := zm (tb_4 (x16 (x16 (x16 (x1 (x1 (x1 (x1 (x1 (x1 (x1 (x1 (x1 (x1 (xh))))))))))))))) rfl
theorem mw_877 : (Jvm.Cond.methodLink "ScaleShop" (396 : Nat) ({ cls := "ScaleShop$Row", name := "isAlike", desc := "(LScaleShop$Row;)Z" } : Jvm.MethodName)) ∈ ws0 := zm (tb_4 (x16 (x16 (x16 (x1 (x1 (x1 (x1 (x1 (x1 (x1 (x1 (x1 (x1 (x1 (xh)))))))))))))))) rfl
theorem mw_878 : (Jvm.Cond.instanceMethod ({ cls := "ScaleShop$Row", name := "isAlike", desc := "(LScaleShop$Row;)Z" } : Jvm.MethodName)) ∈ ws0 := zm (tb_4 (x16 (x16 (x16 (x1 (x1 (x1 (x1 (x1 (x1 (x1 (x1 (x1 (x1 (x1 (x1 (xh))))))))))))))))) rfl
theorem mw_879 : (Jvm.Cond.selects "ScaleShop$Row" ({ cls := "ScaleShop$Row", name := "isAlike", desc := "(LScaleShop$Row;)Z" } : Jvm.MethodName) ({ cls := "ScaleShop$Row", name := "isAlike", desc := "(LScaleShop$Row;)Z" } : Jvm.MethodName)) ∈ ws0 := zm (tb_4 (x16 (x16 (x16 (x1 (x1 (x1 (x1 (x1 (x1 (x1 (x1 (x1 (x1 (x1 (x1 (x1 (xh)))))))))))))))))) rfl
theorem mc_yX7_isAlike : (Cond.code yX7_isAlike cX7_isAlike 3 (some .boolean)) ∈ ws0 := zm (tb_4 (x16 (x16 (x16 (x1 (x1 (x1 (x1 (x1 (x1 (x1 (x1 (x1 (x1 (x1 (x1 (x1 (x1 (xh))))))))))))))))))) rfl
theorem mw_881 : (Jvm.Cond.methodLink "ScaleShop" (199 : Nat) ({ cls := "ScaleShop$Feature", name := "reshape", desc := "(LScaleShop$Row;)V" } : Jvm.MethodName)) ∈ ws0 := zm (tb_4 (x16 (x16 (x16 (x1 (x1 (x1 (x1 (x1 (x1 (x1 (x1 (x1 (x1 (x1 (x1 (x1 (x1 (x1 (xh)))))))))))))))))))) rfl
theorem mw_882 : (Jvm.Cond.methodLink "ScaleShopLaw" (41 : Nat) ({ cls := "ScaleShop", name := "shift", desc := "(IIIII)Z" } : Jvm.MethodName)) ∈ ws0 := zm (tb_4 (x16 (x16 (x16 (x16 (xh)))))) rfl
theorem mw_883 : (Jvm.Cond.instanceMethod ({ cls := "ScaleShop", name := "shift", desc := "(IIIII)Z" } : Jvm.MethodName)) ∈ ws0 := zm (tb_4 (x16 (x16 (x16 (x16 (x1 (xh))))))) rfl
theorem mw_884 : (Jvm.Cond.selects "ScaleShop" ({ cls := "ScaleShop", name := "shift", desc := "(IIIII)Z" } : Jvm.MethodName) ({ cls := "ScaleShop", name := "shift", desc := "(IIIII)Z" } : Jvm.MethodName)) ∈ ws0 := zm (tb_4 (x16 (x16 (x16 (x16 (x1 (x1 (xh)))))))) rfl
theorem mc_yX10_shift : (Cond.code yX10_shift cX10_shift 8 (some .boolean)) ∈ ws0 := zm (tb_4 (x16 (x16 (x16 (x16 (x1 (x1 (x1 (xh))))))))) rfl
theorem mw_886 : (Jvm.Cond.methodLink "ScaleShop" (169 : Nat) ({ cls := "ScaleShop$Feature", name := "mayHaveCorner", desc := "(I)Z" } : Jvm.MethodName)) ∈ ws0 := zm (tb_4 (x16 (x16 (x16 (x16 (x1 (x1 (x1 (x1 (xh)))))))))) rfl
theorem mw_887 : (Jvm.Cond.instanceMethod ({ cls := "ScaleShop$Feature", name := "mayHaveCorner", desc := "(I)Z" } : Jvm.MethodName)) ∈ ws0 := zm (tb_4 (x16 (x16 (x16 (x16 (x1 (x1 (x1 (x1 (x1 (xh))))))))))) rfl
theorem mw_888 : (Jvm.Cond.selects "ScaleShop$Feature" ({ cls := "ScaleShop$Feature", name := "mayHaveCorner", desc := "(I)Z" } : Jvm.MethodName) ({ cls := "ScaleShop$Feature", name := "mayHaveCorner", desc := "(I)Z" } : Jvm.MethodName)) ∈ ws0 := zm (tb_4 (x16 (x16 (x16 (x16 (x1 (x1 (x1 (x1 (x1 (x1 (xh)))))))))))) rfl
theorem mc_yX2_mayHaveCorner : (Cond.code yX2_mayHaveCorner cX2_mayHaveCorner 2 (some .boolean)) ∈ ws0 := zm (tb_4 (x16 (x16 (x16 (x16 (x1 (x1 (x1 (x1 (x1 (x1 (x1 (xh))))))))))))) rfl
theorem mw_890 : (Jvm.Cond.methodLink "ScaleShop" (172 : Nat) ({ cls := "ScaleShop$Row", name := "copyFrom", desc := "(LScaleShop$Row;)V" } : Jvm.MethodName)) ∈ ws0 := zm (tb_4 (x16 (x16 (x16 (x16 (x1 (x1 (x1 (x1 (x1 (x1 (x1 (x1 (xh)))))))))))))) rfl
theorem mw_891 : (Jvm.Cond.methodLink "ScaleShop" (175 : Nat) ({ cls := "ScaleShop$Row", name := "pull", desc := "(IIII)V" } : Jvm.MethodName)) ∈ ws0 := zm (tb_4 (x16 (x16 (x16 (x16 (x1 (x1 (x1 (x1 (x1 (x1 (x1 (x1 (x1 (xh))))))))))))))) rfl
theorem mw_892 : (Jvm.Cond.instanceMethod ({ cls := "ScaleShop$Row", name := "pull", desc := "(IIII)V" } : Jvm.MethodName)) ∈ ws0 := zm (tb_4 (x16 (x16 (x16 (x16 (x1 (x1 (x1 (x1 (x1 (x1 (x1 (x1 (x1 (x1 (xh)))))))))))))))) rfl
theorem mw_893 : (Jvm.Cond.selects "ScaleShop$Row" ({ cls := "ScaleShop$Row", name := "pull", desc := "(IIII)V" } : Jvm.MethodName) ({ cls := "ScaleShop$Row", name := "pull", desc := "(IIII)V" } : Jvm.MethodName)) ∈ ws0 := zm (tb_4 (x16 (x16 (x16 (x16 (x1 (x1 (x1 (x1 (x1 (x1 (x1 (x1 (x1 (x1 (x1 (xh))))))))))))))))) rfl
theorem mc_yX7_pull : (Cond.code yX7_pull cX7_pull 8 none) ∈ ws0 := zm (tb_4 (x16 (x16 (x16 (x16 (x1 (x1 (x1 (x1 (x1 (x1 (x1 (x1 (x1 (x1 (x1 (x1 (xh)))))))))))))))))) rfl
theorem mw_895 : (Jvm.Cond.methodLink "ScaleShop$Row" (111 : Nat) ({ cls := "java/lang/Math", name := "min", desc := "(II)I" } : Jvm.MethodName)) ∈ ws0 := zm (tb_4 (x16 (x16 (x16 (x16 (x1 (x1 (x1 (x1 (x1 (x1 (x1 (x1 (x1 (x1 (x1 (x1 (x1 (xh))))))))))))))))))) rfl
theorem mw_896 : (Jvm.Cond.methodLink "ScaleShop" (178 : Nat) ({ cls := "ScaleShop$Row", name := "carry", desc := "(II)V" } : Jvm.MethodName)) ∈ ws0 := zm (tb_4 (x16 (x16 (x16 (x16 (x1 (x1 (x1 (x1 (x1 (x1 (x1 (x1 (x1 (x1 (x1 (x1 (x1 (x1 (xh)))))))))))))))))))) rfl
theorem mw_897 : (Jvm.Cond.instanceMethod ({ cls := "ScaleShop$Row", name := "carry", desc := "(II)V" } : Jvm.MethodName)) ∈ ws0 := zm (tb_4 (x16 (x16 (x16 (x16 (x1 (x1 (x1 (x1 (x1 (x1 (x1 (x1 (x1 (x1 (x1 (x1 (x1 (x1 (x1 (xh))))))))))))))))))))) rfl
theorem mw_898 : (Jvm.Cond.selects "ScaleShop$Row" ({ cls := "ScaleShop$Row", name := "carry", desc := "(II)V" } : Jvm.MethodName) ({ cls := "ScaleShop$Row", name := "carry", desc := "(II)V" } : Jvm.MethodName)) ∈ ws0 := zm (tb_4 (x16 (x16 (x16 (x16 (x16 (xh))))))) rfl
theorem mc_yX7_carry : (Cond.code yX7_carry cX7_carry 4 none) ∈ ws0 := zm (tb_4 (x16 (x16 (x16 (x16 (x16 (x1 (xh)))))))) rfl
theorem mw_900 : (Jvm.Cond.methodLink "ScaleShopLaw" (46 : Nat) ({ cls := "ScaleShop", name := "grow", desc := "(I)Z" } : Jvm.MethodName)) ∈ ws0 := zm (tb_4 (x16 (x16 (x16 (x16 (x16 (x1 (x1 (xh))))))))) rfl
theorem mw_901 : (Jvm.Cond.instanceMethod ({ cls := "ScaleShop", name := "grow", desc := "(I)Z" } : Jvm.MethodName)) ∈ ws0 := zm (tb_4 (x16 (x16 (x16 (x16 (x16 (x1 (x1 (x1 (xh)))))))))) rfl
theorem mw_902 : (Jvm.Cond.selects "ScaleShop" ({ cls := "ScaleShop", name := "grow", desc := "(I)Z" } : Jvm.MethodName) ({ cls := "ScaleShop", name := "grow", desc := "(I)Z" } : Jvm.MethodName)) ∈ ws0 := zm (tb_4 (x16 (x16 (x16 (x16 (x16 (x1 (x1 (x1 (x1 (xh))))))))))) rfl
theorem mc_yX10_grow : (Cond.code yX10_grow cX10_grow 4 (some .boolean)) ∈ ws0 := zm (tb_4 (x16 (x16 (x16 (x16 (x16 (x1 (x1 (x1 (x1 (x1 (xh)))))))))))) rfl
theorem mw_904 : (Jvm.Cond.methodLink "ScaleShop" (181 : Nat) ({ cls := "ScaleShop$Row", name := "doubleFrom", desc := "(LScaleShop$Row;)V" } : Jvm.MethodName)) ∈ ws0 := zm (tb_4 (x16 (x16 (x16 (x16 (x16 (x1 (x1 (x1 (x1 (x1 (x1 (xh))))))))))))) rfl
theorem mw_905 : (Jvm.Cond.instanceMethod ({ cls := "ScaleShop$Row", name := "doubleFrom", desc := "(LScaleShop$Row;)V" } : Jvm.MethodName)) ∈ ws0 := zm (tb_4 (x16 (x16 (x16 (x16 (x16 (x1 (x1 (x1 (x1 (x1 (x1 (x1 (xh)))))))))))))) rfl
theorem mw_906 : (Jvm.Cond.selects "ScaleShop$Row" ({ cls := "ScaleShop$Row", name := "doubleFrom", desc := "(LScaleShop$Row;)V" } : Jvm.MethodName) ({ cls := "ScaleShop$Row", name := "doubleFrom", desc := "(LScaleShop$Row;)V" } : Jvm.MethodName)) ∈ ws0 := zm (tb_4 (x16 (x16 (x16 (x16 (x16 (x1 (x1 (x1 (x1 (x1 (x1 (x1 (x1 (xh))))))))))))))) rfl
theorem mc_yX7_doubleFrom : (Cond.code yX7_doubleFrom cX7_doubleFrom 3 none) ∈ ws0 := zm (tb_4 (x16 (x16 (x16 (x16 (x16 (x1 (x1 (x1 (x1 (x1 (x1 (x1 (x1 (x1 (xh)))))))))))))))) rfl
theorem mw_908 : (Jvm.Cond.methodLink "ScaleShopLaw" (50 : Nat) ({ cls := "ScaleShop", name := "square", desc := "(II)Z" } : Jvm.MethodName)) ∈ ws0 := zm (tb_4 (x16 (x16 (x16 (x16 (x16 (x1 (x1 (x1 (x1 (x1 (x1 (x1 (x1 (x1 (x1 (xh))))))))))))))))) rfl
theorem mw_909 : (Jvm.Cond.instanceMethod ({ cls := "ScaleShop", name := "square", desc := "(II)Z" } : Jvm.MethodName)) ∈ ws0 := zm (tb_4 (x16 (x16 (x16 (x16 (x16 (x1 (x1 (x1 (x1 (x1 (x1 (x1 (x1 (x1 (x1 (x1 (xh)))))))))))))))))) rfl
theorem mw_910 : (Jvm.Cond.selects "ScaleShop" ({ cls := "ScaleShop", name := "square", desc := "(II)Z" } : Jvm.MethodName) ({ cls := "ScaleShop", name := "square", desc := "(II)Z" } : Jvm.MethodName)) ∈ ws0 := zm (tb_4 (x16 (x16 (x16 (x16 (x16 (x1 (x1 (x1 (x1 (x1 (x1 (x1 (x1 (x1 (x1 (x1 (x1 (xh))))))))))))))))))) rfl
theorem mc_yX10_square : (Cond.code yX10_square cX10_square 5 (some .boolean)) ∈ ws0 := zm (tb_4 (x16 (x16 (x16 (x16 (x16 (x1 (x1 (x1 (x1 (x1 (x1 (x1 (x1 (x1 (x1 (x1 (x1 (x1 (xh)))))))))))))))))))) rfl
theorem mw_912 : (Jvm.Cond.methodLink "ScaleShop" (184 : Nat) ({ cls := "ScaleShop$Box", name := "cover", desc := "(LScaleShop$Row;)V" } : Jvm.MethodName)) ∈ ws0 := zm (tb_4 (x16 (x16 (x16 (x16 (x16 (x1 (x1 (x1 (x1 (x1 (x1 (x1 (x1 (x1 (x1 (x1 (x1 (x1 (x1 (xh))))))))))))))))))))) rfl
theorem mw_913 : (Jvm.Cond.methodLink "ScaleShop" (187 : Nat) ({ cls := "ScaleShop$Row", name := "boxFrom", desc := "(LScaleShop$Box;)V" } : Jvm.MethodName)) ∈ ws0 := zm (tb_4 (x16 (x16 (x16 (x16 (x16 (x1 (x1 (x1 (x1 (x1 (x1 (x1 (x1 (x1 (x1 (x1 (x1 (x1 (x1 (x1 (xh)))))))))))))))))))))) rfl
theorem mw_914 : (Jvm.Cond.instanceMethod ({ cls := "ScaleShop$Row", name := "boxFrom", desc := "(LScaleShop$Box;)V" } : Jvm.MethodName)) ∈ ws0 := zm (tb_4 (x16 (x16 (x16 (x16 (x16 (x16 (xh)))))))) rfl
theorem mw_915 : (Jvm.Cond.selects "ScaleShop$Row" ({ cls := "ScaleShop$Row", name := "boxFrom", desc := "(LScaleShop$Box;)V" } : Jvm.MethodName) ({ cls := "ScaleShop$Row", name := "boxFrom", desc := "(LScaleShop$Box;)V" } : Jvm.MethodName)) ∈ ws0 := zm (tb_4 (x16 (x16 (x16 (x16 (x16 (x16 (x1 (xh))))))))) rfl
theorem mc_yX7_boxFrom : (Cond.code yX7_boxFrom cX7_boxFrom 2 none) ∈ ws0 := zm (tb_4 (x16 (x16 (x16 (x16 (x16 (x16 (x1 (x1 (xh)))))))))) rfl
theorem mw_917 : (Jvm.Cond.methodLink "ScaleShop" (191 : Nat) ({ cls := "ScaleShop$Row", name := "doubleArea", desc := "()I" } : Jvm.MethodName)) ∈ ws0 := zm (tb_4 (x16 (x16 (x16 (x16 (x16 (x16 (x1 (x1 (x1 (xh))))))))))) rfl
theorem mw_918 : (Jvm.Cond.instanceMethod ({ cls := "ScaleShop$Row", name := "doubleArea", desc := "()I" } : Jvm.MethodName)) ∈ ws0 := zm (tb_4 (x16 (x16 (x16 (x16 (x16 (x16 (x1 (x1 (x1 (x1 (xh)))))))))))) rfl
theorem mw_919 : (Jvm.Cond.selects "ScaleShop$Row" ({ cls := "ScaleShop$Row", name := "doubleArea", desc := "()I" } : Jvm.MethodName) ({ cls := "ScaleShop$Row", name := "doubleArea", desc := "()I" } : Jvm.MethodName)) ∈ ws0 := zm (tb_4 (x16 (x16 (x16 (x16 (x16 (x16 (x1 (x1 (x1 (x1 (x1 (xh))))))))))))) rfl
theorem mc_yX7_doubleArea : (Cond.code yX7_doubleArea cX7_doubleArea 4 (some .int)) ∈ ws0 := zm (tb_4 (x16 (x16 (x16 (x16 (x16 (x16 (x1 (x1 (x1 (x1 (x1 (x1 (xh)))))))))))))) rfl
theorem mw_921 : (Jvm.Cond.methodLink "ScaleShopLaw" (55 : Nat) ({ cls := "ScaleShop", name := "join", desc := "(III)I" } : Jvm.MethodName)) ∈ ws0 := zm (tb_4 (x16 (x16 (x16 (x16 (x16 (x16 (x1 (x1 (x1 (x1 (x1 (x1 (x1 (xh))))))))))))))) rfl
theorem mw_922 : (Jvm.Cond.instanceMethod ({ cls := "ScaleShop", name := "join", desc := "(III)I" } : Jvm.MethodName)) ∈ ws0 := zm (tb_4 (x16 (x16 (x16 (x16 (x16 (x16 (x1 (x1 (x1 (x1 (x1 (x1 (x1 (x1 (xh)))))))))))))))) rfl
theorem mw_923 : (Jvm.Cond.selects "ScaleShop" ({ cls := "ScaleShop", name := "join", desc := "(III)I" } : Jvm.MethodName) ({ cls := "ScaleShop", name := "join", desc := "(III)I" } : Jvm.MethodName)) ∈ ws0 := zm (tb_4 (x16 (x16 (x16 (x16 (x16 (x16 (x1 (x1 (x1 (x1 (x1 (x1 (x1 (x1 (x1 (xh))))))))))))))))) rfl
theorem mc_yX10_join : (Cond.code yX10_join cX10_join 8 (some .int)) ∈ ws0 := zm (tb_4 (x16 (x16 (x16 (x16 (x16 (x16 (x1 (x1 (x1 (x1 (x1 (x1 (x1 (x1 (x1 (x1 (xh)))))))))))))))))) rfl
theorem mw_925 : (Jvm.Cond.methodLink "ScaleShop" (202 : Nat) ({ cls := "ScaleShop$Fraction", name := "between", desc := "(LScaleShop$Row;LScaleShop$Row;)V" } : Jvm.MethodName)) ∈ ws0 := zm (tb_4 (x16 (x16 (x16 (x16 (x16 (x16 (x1 (x1 (x1 (x1 (x1 (x1 (x1 (x1 (x1 (x1 (x1 (xh))))))))))))))))))) rfl
theorem mw_926 : (Jvm.Cond.instanceMethod ({ cls := "ScaleShop$Fraction", name := "between", desc := "(LScaleShop$Row;LScaleShop$Row;)V" } : Jvm.MethodName)) ∈ ws0 := zm (tb_4 (x16 (x16 (x16 (x16 (x16 (x16 (x1 (x1 (x1 (x1 (x1 (x1 (x1 (x1 (x1 (x1 (x1 (x1 (xh)))))))))))))))))))) rfl
theorem mw_927 : (Jvm.Cond.selects "ScaleShop$Fraction" ({ cls := "ScaleShop$Fraction", name := "between", desc := "(LScaleShop$Row;LScaleShop$Row;)V" } : Jvm.MethodName) ({ cls := "ScaleShop$Fraction", name := "between", desc := "(LScaleShop$Row;LScaleShop$Row;)V" } : Jvm.MethodName)) ∈ ws0 := zm (tb_4 (x16 (x16 (x16 (x16 (x16 (x16 (x1 (x1 (x1 (x1 (x1 (x1 (x1 (x1 (x1 (x1 (x1 (x1 (x1 (xh))))))))))))))))))))) rfl
theorem mc_yX3_between : (Cond.code yX3_between cX3_between 4 none) ∈ ws0 := zm (tb_4 (x16 (x16 (x16 (x16 (x16 (x16 (x1 (x1 (x1 (x1 (x1 (x1 (x1 (x1 (x1 (x1 (x1 (x1 (x1 (x1 (xh)))))))))))))))))))))) rfl
theorem mw_929 : (Jvm.Cond.methodLink "ScaleShop$Fraction" (50 : Nat) ({ cls := "ScaleShop$Row", name := "touches", desc := "(LScaleShop$Row;)Z" } : Jvm.MethodName)) ∈ ws0 := zm (tb_4 (x16 (x16 (x16 (x16 (x16 (x16 (x1 (x1 (x1 (x1 (x1 (x1 (x1 (x1 (x1 (x1 (x1 (x1 (x1 (x1 (x1 (xh))))))))))))))))))))))) rfl
theorem mw_930 : (Jvm.Cond.methodLink "ScaleShop$Fraction" (16 : Nat) ({ cls := "ScaleShop$Fraction", name := "become", desc := "(JJ)V" } : Jvm.MethodName)) ∈ ws0 := zm (tb_4 (x16 (x16 (x16 (x16 (x16 (x16 (x16 (xh))))))))) rfl
theorem mw_931 : (Jvm.Cond.instanceMethod ({ cls := "ScaleShop$Fraction", name := "become", desc := "(JJ)V" } : Jvm.MethodName)) ∈ ws0 := zm (tb_4 (x16 (x16 (x16 (x16 (x16 (x16 (x16 (x1 (xh)))))))))) rfl
theorem mw_932 : (Jvm.Cond.selects "ScaleShop$Fraction" ({ cls := "ScaleShop$Fraction", name := "become", desc := "(JJ)V" } : Jvm.MethodName) ({ cls := "ScaleShop$Fraction", name := "become", desc := "(JJ)V" } : Jvm.MethodName)) ∈ ws0 := zm (tb_4 (x16 (x16 (x16 (x16 (x16 (x16 (x16 (x1 (x1 (xh))))))))))) rfl
theorem mc_yX3_become : (Cond.code yX3_become cX3_become 5 none) ∈ ws0 := zm (tb_4 (x16 (x16 (x16 (x16 (x16 (x16 (x16 (x1 (x1 (x1 (xh)))))))))))) rfl
theorem mw_934 : (Jvm.Cond.methodLink "ScaleShop$Fraction" (54 : Nat) ({ cls := "ScaleShop$Fraction", name := "clear", desc := "()V" } : Jvm.MethodName)) ∈ ws0 := zm (tb_4 (x16 (x16 (x16 (x16 (x16 (x16 (x16 (x1 (x1 (x1 (x1 (xh))))))))))))) rfl
theorem mw_935 : (Jvm.Cond.instanceMethod ({ cls := "ScaleShop$Fraction", name := "clear", desc := "()V" } : Jvm.MethodName)) ∈ ws0 := zm (tb_4 (x16 (x16 (x16 (x16 (x16 (x16 (x16 (x1 (x1 (x1 (x1 (x1 (xh)))))))))))))) rfl
theorem mw_936 : (Jvm.Cond.selects "ScaleShop$Fraction" ({ cls := "ScaleShop$Fraction", name := "clear", desc := "()V" } : Jvm.MethodName) ({ cls := "ScaleShop$Fraction", name := "clear", desc := "()V" } : Jvm.MethodName)) ∈ ws0 := zm (tb_4 (x16 (x16 (x16 (x16 (x16 (x16 (x16 (x1 (x1 (x1 (x1 (x1 (x1 (xh))))))))))))))) rfl
theorem mc_yX3_clear : (Cond.code yX3_clear cX3_clear 1 none) ∈ ws0 := zm (tb_4 (x16 (x16 (x16 (x16 (x16 (x16 (x16 (x1 (x1 (x1 (x1 (x1 (x1 (x1 (xh)))))))))))))))) rfl
theorem mw_938 : (Jvm.Cond.methodLink "ScaleShop$Fraction" (61 : Nat) ({ cls := "ScaleShop$Fraction", name := "offerFrom", desc := "(IILScaleShop$Row;)V" } : Jvm.MethodName)) ∈ ws0 := zm (tb_4 (x16 (x16 (x16 (x16 (x16 (x16 (x16 (x1 (x1 (x1 (x1 (x1 (x1 (x1 (x1 (xh))))))))))))))))) rfl
theorem mw_939 : (Jvm.Cond.instanceMethod ({ cls := "ScaleShop$Fraction", name := "offerFrom", desc := "(IILScaleShop$Row;)V" } : Jvm.MethodName)) ∈ ws0 := zm (tb_4 (x16 (x16 (x16 (x16 (x16 (x16 (x16 (x1 (x1 (x1 (x1 (x1 (x1 (x1 (x1 (x1 (xh)))))))))))))))))) rfl
theorem mw_940 : (Jvm.Cond.selects "ScaleShop$Fraction" ({ cls := "ScaleShop$Fraction", name := "offerFrom", desc := "(IILScaleShop$Row;)V" } : Jvm.MethodName) ({ cls := "ScaleShop$Fraction", name := "offerFrom", desc := "(IILScaleShop$Row;)V" } : Jvm.MethodName)) ∈ ws0 := zm (tb_4 (x16 (x16 (x16 (x16 (x16 (x16 (x16 (x1 (x1 (x1 (x1 (x1 (x1 (x1 (x1 (x1 (x1 (xh))))))))))))))))))) rfl
theorem mc_yX3_offerFrom : (Cond.code yX3_offerFrom cX3_offerFrom 5 none) ∈ ws0 := zm (tb_4 (x16 (x16 (x16 (x16 (x16 (x16 (x16 (x1 (x1 (x1 (x1 (x1 (x1 (x1 (x1 (x1 (x1 (x1 (xh)))))))))))))))))))) rfl
theorem mw_942 : (Jvm.Cond.methodLink "ScaleShop$Fraction" (22 : Nat) ({ cls := "ScaleShop$Row", name := "parts", desc := "()I" } : Jvm.MethodName)) ∈ ws0 := zm (tb_4 (x16 (x16 (x16 (x16 (x16 (x16 (x16 (x1 (x1 (x1 (x1 (x1 (x1 (x1 (x1 (x1 (x1 (x1 (x1 (xh))))))))))))))))))))) rfl
theorem mw_943 : (Jvm.Cond.methodLink "ScaleShop$Fraction" (28 : Nat) ({ cls := "ScaleShop$Fraction", name := "offerPart", desc := "(IILScaleShop$Row;I)V" } : Jvm.MethodName)) ∈ ws0 := zm (tb_4 (x16 (x16 (x16 (x16 (x16 (x16 (x16 (x1 (x1 (x1 (x1 (x1 (x1 (x1 (x1 (x1 (x1 (x1 (x1 (x1 (xh)))))))))))))))))))))) rfl
theorem mw_945 : (Jvm.Cond.instanceMethod ({ cls := "ScaleShop$Fraction", name := "offerPart", desc := "(IILScaleShop$Row;I)V" } : Jvm.MethodName)) ∈ ws0 := zm (tb_4 (x16 (x16 (x16 (x16 (x16 (x16 (x16 (x1 (x1 (x1 (x1 (x1 (x1 (x1 (x1 (x1 (x1 (x1 (x1 (x1 (x1 (x1 (xh)))))))))))))))))))))))) rfl
theorem mc_yX3_offerPart : (Cond.code yX3_offerPart cX3_offerPart 14 none) ∈ ws0 := zm (tb_4 (x16 (x16 (x16 (x16 (x16 (x16 (x16 (x16 (xh)))))))))) rfl
theorem mw_947 : (Jvm.Cond.methodLink "ScaleShop$Fraction" (32 : Nat) ({ cls := "ScaleShop$Row", name := "next", desc := "(I)I" } : Jvm.MethodName)) ∈ ws0 := zm (tb_4 (x16 (x16 (x16 (x16 (x16 (x16 (x16 (x16 (x1 (xh))))))))))) rfl
theorem mw_948 : (Jvm.Cond.methodLink "ScaleShop$Fraction" (43 : Nat) ({ cls := "ScaleShop$Fraction", name := "offer", desc := "(JJ)V" } : Jvm.MethodName)) ∈ ws0 := zm (tb_4 (x16 (x16 (x16 (x16 (x16 (x16 (x16 (x16 (x1 (x1 (xh)))))))))))) rfl
theorem mw_949 : (Jvm.Cond.instanceMethod ({ cls := "ScaleShop$Fraction", name := "offer", desc := "(JJ)V" } : Jvm.MethodName)) ∈ ws0 := zm (tb_4 (x16 (x16 (x16 (x16 (x16 (x16 (x16 (x16 (x1 (x1 (x1 (xh))))))))))))) rfl
theorem mw_950 : (Jvm.Cond.selects "ScaleShop$Fraction" ({ cls := "ScaleShop$Fraction", name := "offer", desc := "(JJ)V" } : Jvm.MethodName) ({ cls := "ScaleShop$Fraction", name := "offer", desc := "(JJ)V" } : Jvm.MethodName)) ∈ ws0 := zm (tb_4 (x16 (x16 (x16 (x16 (x16 (x16 (x16 (x16 (x1 (x1 (x1 (x1 (xh)))))))))))))) rfl
theorem mc_yX3_offer : (Cond.code yX3_offer cX3_offer 5 none) ∈ ws0 := zm (tb_4 (x16 (x16 (x16 (x16 (x16 (x16 (x16 (x16 (x1 (x1 (x1 (x1 (x1 (xh))))))))))))))) rfl
theorem mw_952 : (Jvm.Cond.methodLink "ScaleShop$Fraction" (46 : Nat) ({ cls := "ScaleShop$Row", name := "turn", desc := "(III)I" } : Jvm.MethodName)) ∈ ws0 := zm (tb_4 (x16 (x16 (x16 (x16 (x16 (x16 (x16 (x16 (x1 (x1 (x1 (x1 (x1 (x1 (xh)))))))))))))))) rfl
theorem mw_953 : (Jvm.Cond.methodLink "ScaleShop" (206 : Nat) ({ cls := "ScaleShop$Fraction", name := "isOver", desc := "(I)Z" } : Jvm.MethodName)) ∈ ws0 := zm (tb_4 (x16 (x16 (x16 (x16 (x16 (x16 (x16 (x16 (x1 (x1 (x1 (x1 (x1 (x1 (x1 (xh))))))))))))))))) rfl
theorem mw_954 : (Jvm.Cond.instanceMethod ({ cls := "ScaleShop$Fraction", name := "isOver", desc := "(I)Z" } : Jvm.MethodName)) ∈ ws0 := zm (tb_4 (x16 (x16 (x16 (x16 (x16 (x16 (x16 (x16 (x1 (x1 (x1 (x1 (x1 (x1 (x1 (x1 (xh)))))))))))))))))) rfl
theorem mw_955 : (Jvm.Cond.selects "ScaleShop$Fraction" ({ cls := "ScaleShop$Fraction", name := "isOver", desc := "(I)Z" } : Jvm.MethodName) ({ cls := "ScaleShop$Fraction", name := "isOver", desc := "(I)Z" } : Jvm.MethodName)) ∈ ws0 := zm (tb_4 (x16 (x16 (x16 (x16 (x16 (x16 (x16 (x16 (x1 (x1 (x1 (x1 (x1 (x1 (x1 (x1 (x1 (xh))))))))))))))))))) rfl
theorem mc_yX3_isOver : (Cond.code yX3_isOver cX3_isOver 2 (some .boolean)) ∈ ws0 := zm (tb_4 (x16 (x16 (x16 (x16 (x16 (x16 (x16 (x16 (x1 (x1 (x1 (x1 (x1 (x1 (x1 (x1 (x1 (x1 (xh)))))))))))))))))))) rfl
theorem mw_957 : (Jvm.Cond.methodLink "ScaleShop" (209 : Nat) ({ cls := "ScaleShop$Box", name := "stretch", desc := "(LScaleShop$Row;)V" } : Jvm.MethodName)) ∈ ws0 := zm (tb_4 (x16 (x16 (x16 (x16 (x16 (x16 (x16 (x16 (x1 (x1 (x1 (x1 (x1 (x1 (x1 (x1 (x1 (x1 (x1 (xh))))))))))))))))))))) rfl
theorem mw_958 : (Jvm.Cond.methodLink "ScaleShop" (212 : Nat) ({ cls := "ScaleShop$Law", name := "isFreeFor", desc := "(LScaleShop$Sheet;LScaleShop$Feature;LScaleShop$Feature;)Z" } : Jvm.MethodName)) ∈ ws0 := zm (tb_4 (x16 (x16 (x16 (x16 (x16 (x16 (x16 (x16 (x1 (x1 (x1 (x1 (x1 (x1 (x1 (x1 (x1 (x1 (x1 (x1 (xh)))))))))))))))))))))) rfl
theorem mw_959 : (Jvm.Cond.instanceMethod ({ cls := "ScaleShop$Law", name := "isFreeFor", desc := "(LScaleShop$Sheet;LScaleShop$Feature;LScaleShop$Feature;)Z" } : Jvm.MethodName)) ∈ ws0 := zm (tb_4 (x16 (x16 (x16 (x16 (x16 (x16 (x16 (x16 (x1 (x1 (x1 (x1 (x1 (x1 (x1 (x1 (x1 (x1 (x1 (x1 (x1 (xh))))))))))))))))))))))) rfl
theorem mw_960 : (Jvm.Cond.selects "ScaleShop$Law" ({ cls := "ScaleShop$Law", name := "isFreeFor", desc := "(LScaleShop$Sheet;LScaleShop$Feature;LScaleShop$Feature;)Z" } : Jvm.MethodName) ({ cls := "ScaleShop$Law", name := "isFreeFor", desc := "(LScaleShop$Sheet;LScaleShop$Feature;LScaleShop$Feature;)Z" } : Jvm.MethodName)) ∈ ws0 := zm (tb_4 (x16 (x16 (x16 (x16 (x16 (x16 (x16 (x16 (x1 (x1 (x1 (x1 (x1 (x1 (x1 (x1 (x1 (x1 (x1 (x1 (x1 (x1 (xh)))))))))))))))))))))))) rfl
theorem mc_yX4_isFreeFor : (Cond.code yX4_isFreeFor cX4_isFreeFor 6 (some .boolean)) ∈ ws0 := zm (tb_4 (x16 (x16 (x16 (x16 (x16 (x16 (x16 (x16 (x1 (x1 (x1 (x1 (x1 (x1 (x1 (x1 (x1 (x1 (x1 (x1 (x1 (x1 (x1 (xh))))))))))))))))))))))))) rfl
theorem mw_962 : (Jvm.Cond.methodLink "ScaleShop" (216 : Nat) ({ cls := "ScaleShop", name := "unite", desc := "(LScaleShop$Feature;LScaleShop$Feature;II)I" } : Jvm.MethodName)) ∈ ws0 := zm (tb_4 (x16 (x16 (x16 (x16 (x16 (x16 (x16 (x16 (x16 (xh))))))))))) rfl
theorem mw_964 : (Jvm.Cond.instanceMethod ({ cls := "ScaleShop", name := "unite", desc := "(LScaleShop$Feature;LScaleShop$Feature;II)I" } : Jvm.MethodName)) ∈ ws0 := zm (tb_4 (x16 (x16 (x16 (x16 (x16 (x16 (x16 (x16 (x16 (x1 (x1 (xh))))))))))))) rfl
theorem mc_yX10_unite : (Cond.code yX10_unite cX10_unite 7 (some .int)) ∈ ws0 := zm (tb_4 (x16 (x16 (x16 (x16 (x16 (x16 (x16 (x16 (x16 (x1 (x1 (x1 (xh)))))))))))))) rfl
theorem mw_966 : (Jvm.Cond.methodLink "ScaleShop" (406 : Nat) ({ cls := "ScaleShop$Row", name := "copy", desc := "()LScaleShop$Row;" } : Jvm.MethodName)) ∈ ws0 := zm (tb_4 (x16 (x16 (x16 (x16 (x16 (x16 (x16 (x16 (x16 (x1 (x1 (x1 (x1 (xh))))))))))))))) rfl
theorem mw_967 : (Jvm.Cond.methodLink "ScaleShop" (220 : Nat) ({ cls := "ScaleShop$Feature", name := "leave", desc := "(I)V" } : Jvm.MethodName)) ∈ ws0 := zm (tb_4 (x16 (x16 (x16 (x16 (x16 (x16 (x16 (x16 (x16 (x1 (x1 (x1 (x1 (x1 (xh)))))))))))))))) rfl
theorem mw_968 : (Jvm.Cond.instanceMethod ({ cls := "ScaleShop$Feature", name := "leave", desc := "(I)V" } : Jvm.MethodName)) ∈ ws0 := zm (tb_4 (x16 (x16 (x16 (x16 (x16 (x16 (x16 (x16 (x16 (x1 (x1 (x1 (x1 (x1 (x1 (xh))))))))))))))))) rfl
theorem mw_969 : (Jvm.Cond.selects "ScaleShop$Feature" ({ cls := "ScaleShop$Feature", name := "leave", desc := "(I)V" } : Jvm.MethodName) ({ cls := "ScaleShop$Feature", name := "leave", desc := "(I)V" } : Jvm.MethodName)) ∈ ws0 := zm (tb_4 (x16 (x16 (x16 (x16 (x16 (x16 (x16 (x16 (x16 (x1 (x1 (x1 (x1 (x1 (x1 (x1 (xh)))))))))))))))))) rfl
theorem mc_yX2_leave : (Cond.code yX2_leave cX2_leave 2 none) ∈ ws0 := zm (tb_4 (x16 (x16 (x16 (x16 (x16 (x16 (x16 (x16 (x16 (x1 (x1 (x1 (x1 (x1 (x1 (x1 (x1 (xh))))))))))))))))))) rfl
theorem mw_971 : (Jvm.Cond.methodLink "ScaleShopLaw" (59 : Nat) ({ cls := "ScaleShop", name := "drop", desc := "(I)Z" } : Jvm.MethodName)) ∈ ws0 := zm (tb_4 (x16 (x16 (x16 (x16 (x16 (x16 (x16 (x16 (x16 (x1 (x1 (x1 (x1 (x1 (x1 (x1 (x1 (x1 (xh)))))))))))))))))))) rfl
theorem mw_972 : (Jvm.Cond.instanceMethod ({ cls := "ScaleShop", name := "drop", desc := "(I)Z" } : Jvm.MethodName)) ∈ ws0 := zm (tb_4 (x16 (x16 (x16 (x16 (x16 (x16 (x16 (x16 (x16 (x1 (x1 (x1 (x1 (x1 (x1 (x1 (x1 (x1 (x1 (xh))))))))))))))))))))) rfl
theorem mw_973 : (Jvm.Cond.selects "ScaleShop" ({ cls := "ScaleShop", name := "drop", desc := "(I)Z" } : Jvm.MethodName) ({ cls := "ScaleShop", name := "drop", desc := "(I)Z" } : Jvm.MethodName)) ∈ ws0 := zm (tb_4 (x16 (x16 (x16 (x16 (x16 (x16 (x16 (x16 (x16 (x1 (x1 (x1 (x1 (x1 (x1 (x1 (x1 (x1 (x1 (x1 (xh)))))))))))))))))))))) rfl
theorem mc_yX10_drop : (Cond.code yX10_drop cX10_drop 3 (some .boolean)) ∈ ws0 := zm (tb_4 (x16 (x16 (x16 (x16 (x16 (x16 (x16 (x16 (x16 (x1 (x1 (x1 (x1 (x1 (x1 (x1 (x1 (x1 (x1 (x1 (x1 (xh))))))))))))))))))))))) rfl
theorem mw_975 : (Jvm.Cond.methodLink "ScaleShopLaw" (63 : Nat) ({ cls := "ScaleShop", name := "few", desc := "(II)I" } : Jvm.MethodName)) ∈ ws0 := zm (tb_4 (x16 (x16 (x16 (x16 (x16 (x16 (x16 (x16 (x16 (x1 (x1 (x1 (x1 (x1 (x1 (x1 (x1 (x1 (x1 (x1 (x1 (x1 (xh)))))))))))))))))))))))) rfl
theorem mw_976 : (Jvm.Cond.instanceMethod ({ cls := "ScaleShop", name := "few", desc := "(II)I" } : Jvm.MethodName)) ∈ ws0 := zm (tb_4 (x16 (x16 (x16 (x16 (x16 (x16 (x16 (x16 (x16 (x1 (x1 (x1 (x1 (x1 (x1 (x1 (x1 (x1 (x1 (x1 (x1 (x1 (x1 (xh))))))))))))))))))))))))) rfl
theorem mw_977 : (Jvm.Cond.selects "ScaleShop" ({ cls := "ScaleShop", name := "few", desc := "(II)I" } : Jvm.MethodName) ({ cls := "ScaleShop", name := "few", desc := "(II)I" } : Jvm.MethodName)) ∈ ws0 := zm (tb_4 (x16 (x16 (x16 (x16 (x16 (x16 (x16 (x16 (x16 (x1 (x1 (x1 (x1 (x1 (x1 (x1 (x1 (x1 (x1 (x1 (x1 (x1 (x1 (x1 (xh)))))))))))))))))))))))))) rfl
theorem mc_yX10_few : (Cond.code yX10_few cX10_few 6 (some .int)) ∈ ws0 := zm (tb_4 (x16 (x16 (x16 (x16 (x16 (x16 (x16 (x16 (x16 (x16 (xh)))))))))))) rfl
theorem mw_979 : (Jvm.Cond.methodLink "ScaleShop" (227 : Nat) ({ cls := "ScaleShop", name := "isSmallHouse", desc := "(II)Z" } : Jvm.MethodName)) ∈ ws0 := zm (tb_4 (x16 (x16 (x16 (x16 (x16 (x16 (x16 (x16 (x16 (x16 (x1 (xh))))))))))))) rfl
theorem mw_981 : (Jvm.Cond.instanceMethod ({ cls := "ScaleShop", name := "isSmallHouse", desc := "(II)Z" } : Jvm.MethodName)) ∈ ws0 := zm (tb_4 (x16 (x16 (x16 (x16 (x16 (x16 (x16 (x16 (x16 (x16 (x1 (x1 (x1 (xh))))))))))))))) rfl
theorem mc_yX10_isSmallHouse : (Cond.code yX10_isSmallHouse cX10_isSmallHouse 4 (some .boolean)) ∈ ws0 := zm (tb_4 (x16 (x16 (x16 (x16 (x16 (x16 (x16 (x16 (x16 (x16 (x1 (x1 (x1 (x1 (xh)))))))))))))))) rfl
theorem mw_983 : (Jvm.Cond.methodLink "ScaleShop" (410 : Nat) ({ cls := "ScaleShop$Sheet", name := "houseThere", desc := "(I)LScaleShop$Row;" } : Jvm.MethodName)) ∈ ws0 := zm (tb_4 (x16 (x16 (x16 (x16 (x16 (x16 (x16 (x16 (x16 (x16 (x1 (x1 (x1 (x1 (x1 (xh))))))))))))))))) rfl
theorem mw_984 : (Jvm.Cond.instanceMethod ({ cls := "ScaleShop$Sheet", name := "houseThere", desc := "(I)LScaleShop$Row;" } : Jvm.MethodName)) ∈ ws0 := zm (tb_4 (x16 (x16 (x16 (x16 (x16 (x16 (x16 (x16 (x16 (x16 (x1 (x1 (x1 (x1 (x1 (x1 (xh)))))))))))))))))) rfl
theorem mw_985 : (Jvm.Cond.selects "ScaleShop$Sheet" ({ cls := "ScaleShop$Sheet", name := "houseThere", desc := "(I)LScaleShop$Row;" } : Jvm.MethodName) ({ cls := "ScaleShop$Sheet", name := "houseThere", desc := "(I)LScaleShop$Row;" } : Jvm.MethodName)) ∈ ws0 := zm (tb_4 (x16 (x16 (x16 (x16 (x16 (x16 (x16 (x16 (x16 (x16 (x1 (x1 (x1 (x1 (x1 (x1 (x1 (xh))))))))))))))))))) rfl
theorem mc_yX8_houseThere : (Cond.code yX8_houseThere cX8_houseThere 3 (some (.object "ScaleShop$Row"))) ∈ ws0 := zm (tb_4 (x16 (x16 (x16 (x16 (x16 (x16 (x16 (x16 (x16 (x16 (x1 (x1 (x1 (x1 (x1 (x1 (x1 (x1 (xh)))))))))))))))))))) rfl
theorem mw_987 : (Jvm.Cond.methodLink "ScaleShop$Sheet" (51 : Nat) ({ cls := "ScaleShop$Sheet", name := "rowThere", desc := "(I)LScaleShop$Row;" } : Jvm.MethodName)) ∈ ws0 := zm (tb_4 (x16 (x16 (x16 (x16 (x16 (x16 (x16 (x16 (x16 (x16 (x1 (x1 (x1 (x1 (x1 (x1 (x1 (x1 (x1 (xh))))))))))))))))))))) rfl
theorem mw_988 : (Jvm.Cond.methodLink "ScaleShop" (230 : Nat) ({ cls := "ScaleShop", name := "rankInTown", desc := "(I)I" } : Jvm.MethodName)) ∈ ws0 := zm (tb_4 (x16 (x16 (x16 (x16 (x16 (x16 (x16 (x16 (x16 (x16 (x1 (x1 (x1 (x1 (x1 (x1 (x1 (x1 (x1 (x1 (xh)))))))))))))))))))))) rfl
theorem mw_990 : (Jvm.Cond.instanceMethod ({ cls := "ScaleShop", name := "rankInTown", desc := "(I)I" } : Jvm.MethodName)) ∈ ws0 := zm (tb_4 (x16 (x16 (x16 (x16 (x16 (x16 (x16 (x16 (x16 (x16 (x1 (x1 (x1 (x1 (x1 (x1 (x1 (x1 (x1 (x1 (x1 (x1 (xh)))))))))))))))))))))))) rfl
theorem mc_yX10_rankInTown : (Cond.code yX10_rankInTown cX10_rankInTown 9 (some .int)) ∈ ws0 := zm (tb_4 (x16 (x16 (x16 (x16 (x16 (x16 (x16 (x16 (x16 (x16 (x1 (x1 (x1 (x1 (x1 (x1 (x1 (x1 (x1 (x1 (x1 (x1 (x1 (xh))))))))))))))))))))))))) rfl
theorem mw_992 : (Jvm.Cond.methodLink "ScaleShopLaw" (67 : Nat) ({ cls := "ScaleShop", name := "choose", desc := "()I" } : Jvm.MethodName)) ∈ ws0 := zm (tb_4 (x16 (x16 (x16 (x16 (x16 (x16 (x16 (x16 (x16 (x16 (x1 (x1 (x1 (x1 (x1 (x1 (x1 (x1 (x1 (x1 (x1 (x1 (x1 (x1 (xh)))))))))))))))))))))))))) rfl
theorem mw_993 : (Jvm.Cond.instanceMethod ({ cls := "ScaleShop", name := "choose", desc := "()I" } : Jvm.MethodName)) ∈ ws0 := zm (tb_4 (x16 (x16 (x16 (x16 (x16 (x16 (x16 (x16 (x16 (x16 (x1 (x1 (x1 (x1 (x1 (x1 (x1 (x1 (x1 (x1 (x1 (x1 (x1 (x1 (x1 (xh))))))))))))))))))))))))))) rfl
theorem mw_994 : (Jvm.Cond.selects "ScaleShop" ({ cls := "ScaleShop", name := "choose", desc := "()I" } : Jvm.MethodName) ({ cls := "ScaleShop", name := "choose", desc := "()I" } : Jvm.MethodName)) ∈ ws0 := zm (tb_4 (x16 (x16 (x16 (x16 (x16 (x16 (x16 (x16 (x16 (x16 (x16 (xh))))))))))))) rfl
theorem mc_yX10_choose : (Cond.code yX10_choose cX10_choose 2 (some .int)) ∈ ws0 := zm (tb_4 (x16 (x16 (x16 (x16 (x16 (x16 (x16 (x16 (x16 (x16 (x16 (x1 (xh)))))))))))))) rfl
theorem mw_996 : (Jvm.Cond.methodLink "ScaleShop" (233 : Nat) ({ cls := "ScaleShop$Roads", name := "gather", desc := "(LScaleShop$Sheet;)V" } : Jvm.MethodName)) ∈ ws0 := zm (tb_4 (x16 (x16 (x16 (x16 (x16 (x16 (x16 (x16 (x16 (x16 (x16 (x1 (x1 (xh))))))))))))))) rfl
theorem mw_997 : (Jvm.Cond.instanceMethod ({ cls := "ScaleShop$Roads", name := "gather", desc := "(LScaleShop$Sheet;)V" } : Jvm.MethodName)) ∈ ws0 := zm (tb_4 (x16 (x16 (x16 (x16 (x16 (x16 (x16 (x16 (x16 (x16 (x16 (x1 (x1 (x1 (xh)))))))))))))))) rfl
theorem mw_998 : (Jvm.Cond.selects "ScaleShop$Roads" ({ cls := "ScaleShop$Roads", name := "gather", desc := "(LScaleShop$Sheet;)V" } : Jvm.MethodName) ({ cls := "ScaleShop$Roads", name := "gather", desc := "(LScaleShop$Sheet;)V" } : Jvm.MethodName)) ∈ ws0 := zm (tb_4 (x16 (x16 (x16 (x16 (x16 (x16 (x16 (x16 (x16 (x16 (x16 (x1 (x1 (x1 (x1 (xh))))))))))))))))) rfl
theorem mc_yX6_gather : (Cond.code yX6_gather cX6_gather 5 none) ∈ ws0 := zm (tb_4 (x16 (x16 (x16 (x16 (x16 (x16 (x16 (x16 (x16 (x16 (x16 (x1 (x1 (x1 (x1 (x1 (xh)))))))))))))))))) rfl
theorem mw_1000 : (Jvm.Cond.methodLink "ScaleShop$Roads" (39 : Nat) ({ cls := "ScaleShop$Sheet", name := "find", desc := "(I)LScaleShop$Feature;" } : Jvm.MethodName)) ∈ ws0 := zm (tb_4 (x16 (x16 (x16 (x16 (x16 (x16 (x16 (x16 (x16 (x16 (x16 (x1 (x1 (x1 (x1 (x1 (x1 (xh))))))))))))))))))) rfl
theorem mw_1001 : (Jvm.Cond.methodLink "ScaleShop$Roads" (43 : Nat) ({ cls := "ScaleShop$Sheet", name := "rowThere", desc := "(I)LScaleShop$Row;" } : Jvm.MethodName)) ∈ ws0 := zm (tb_4 (x16 (x16 (x16 (x16 (x16 (x16 (x16 (x16 (x16 (x16 (x16 (x1 (x1 (x1 (x1 (x1 (x1 (x1 (xh)))))))))))))))))))) rfl
theorem mw_1002 : (Jvm.Cond.methodLink "ScaleShop$Roads" (59 : Nat) ({ cls := "ScaleShop$Row", name := "length", desc := "()I" } : Jvm.MethodName)) ∈ ws0 := zm (tb_4 (x16 (x16 (x16 (x16 (x16 (x16 (x16 (x16 (x16 (x16 (x16 (x1 (x1 (x1 (x1 (x1 (x1 (x1 (x1 (xh))))))))))))))))))))) rfl
theorem mw_1003 : (Jvm.Cond.instanceMethod ({ cls := "ScaleShop$Row", name := "length", desc := "()I" } : Jvm.MethodName)) ∈ ws0 := zm (tb_4 (x16 (x16 (x16 (x16 (x16 (x16 (x16 (x16 (x16 (x16 (x16 (x1 (x1 (x1 (x1 (x1 (x1 (x1 (x1 (x1 (xh)))))))))))))))))))))) rfl
theorem mw_1004 : (Jvm.Cond.selects "ScaleShop$Row" ({ cls := "ScaleShop$Row", name := "length", desc := "()I" } : Jvm.MethodName) ({ cls := "ScaleShop$Row", name := "length", desc := "()I" } : Jvm.MethodName)) ∈ ws0 := zm (tb_4 (x16 (x16 (x16 (x16 (x16 (x16 (x16 (x16 (x16 (x16 (x16 (x1 (x1 (x1 (x1 (x1 (x1 (x1 (x1 (x1 (x1 (xh))))))))))))))))))))))) rfl
theorem mc_yX7_length : (Cond.code yX7_length cX7_length 3 (some .int)) ∈ ws0 := zm (tb_4 (x16 (x16 (x16 (x16 (x16 (x16 (x16 (x16 (x16 (x16 (x16 (x1 (x1 (x1 (x1 (x1 (x1 (x1 (x1 (x1 (x1 (x1 (xh)))))))))))))))))))))))) rfl
theorem mw_1006 : (Jvm.Cond.methodLink "ScaleShop$Roads" (65 : Nat) ({ cls := "ScaleShop$Roads", name := "insert", desc := "(LScaleShop$Feature;I)V" } : Jvm.MethodName)) ∈ ws0 := zm (tb_4 (x16 (x16 (x16 (x16 (x16 (x16 (x16 (x16 (x16 (x16 (x16 (x1 (x1 (x1 (x1 (x1 (x1 (x1 (x1 (x1 (x1 (x1 (x1 (xh))))))))))))))))))))))))) rfl
theorem mw_1008 : (Jvm.Cond.instanceMethod ({ cls := "ScaleShop$Roads", name := "insert", desc := "(LScaleShop$Feature;I)V" } : Jvm.MethodName)) ∈ ws0 := zm (tb_4 (x16 (x16 (x16 (x16 (x16 (x16 (x16 (x16 (x16 (x16 (x16 (x1 (x1 (x1 (x1 (x1 (x1 (x1 (x1 (x1 (x1 (x1 (x1 (x1 (x1 (xh))))))))))))))))))))))))))) rfl
theorem mc_yX6_insert : (Cond.code yX6_insert cX6_insert 5 none) ∈ ws0 := zm (tb_4 (x16 (x16 (x16 (x16 (x16 (x16 (x16 (x16 (x16 (x16 (x16 (x1 (x1 (x1 (x1 (x1 (x1 (x1 (x1 (x1 (x1 (x1 (x1 (x1 (x1 (x1 (xh)))))))))))))))))))))))))))) rfl
theorem mw_1010 : (Jvm.Cond.methodLink "ScaleShop$Roads" (80 : Nat) ({ cls := "ScaleShop$Roads", name := "setEnd", desc := "(III)V" } : Jvm.MethodName)) ∈ ws0 := zm (tb_4 (x16 (x16 (x16 (x16 (x16 (x16 (x16 (x16 (x16 (x16 (x16 (x16 (xh)))))))))))))) rfl
theorem mw_1012 : (Jvm.Cond.instanceMethod ({ cls := "ScaleShop$Roads", name := "setEnd", desc := "(III)V" } : Jvm.MethodName)) ∈ ws0 := zm (tb_4 (x16 (x16 (x16 (x16 (x16 (x16 (x16 (x16 (x16 (x16 (x16 (x16 (x1 (x1 (xh)))))))))))))))) rfl
theorem mc_yX6_setEnd : (Cond.code yX6_setEnd cX6_setEnd 5 none) ∈ ws0 := zm (tb_4 (x16 (x16 (x16 (x16 (x16 (x16 (x16 (x16 (x16 (x16 (x16 (x16 (x1 (x1 (x1 (xh))))))))))))))))) rfl
theorem mw_1014 : (Jvm.Cond.methodLink "ScaleShop" (237 : Nat) ({ cls := "ScaleShop$Roads", name := "leaveOut", desc := "(I)I" } : Jvm.MethodName)) ∈ ws0 := zm (tb_4 (x16 (x16 (x16 (x16 (x16 (x16 (x16 (x16 (x16 (x16 (x16 (x16 (x1 (x1 (x1 (x1 (xh)))))))))))))))))) rfl
theorem mw_1015 : (Jvm.Cond.instanceMethod ({ cls := "ScaleShop$Roads", name := "leaveOut", desc := "(I)I" } : Jvm.MethodName)) ∈ ws0 := zm (tb_4 (x16 (x16 (x16 (x16 (x16 (x16 (x16 (x16 (x16 (x16 (x16 (x16 (x1 (x1 (x1 (x1 (x1 (xh))))))))))))))))))) rfl
theorem mw_1016 : (Jvm.Cond.selects "ScaleShop$Roads" ({ cls := "ScaleShop$Roads", name := "leaveOut", desc := "(I)I" } : Jvm.MethodName) ({ cls := "ScaleShop$Roads", name := "leaveOut", desc := "(I)I" } : Jvm.MethodName)) ∈ ws0 := zm (tb_4 (x16 (x16 (x16 (x16 (x16 (x16 (x16 (x16 (x16 (x16 (x16 (x16 (x1 (x1 (x1 (x1 (x1 (x1 (xh)))))))))))))))))))) rfl
theorem mc_yX6_leaveOut : (Cond.code yX6_leaveOut cX6_leaveOut 6 (some .int)) ∈ ws0 := zm (tb_4 (x16 (x16 (x16 (x16 (x16 (x16 (x16 (x16 (x16 (x16 (x16 (x16 (x1 (x1 (x1 (x1 (x1 (x1 (x1 (xh))))))))))))))))))))) rfl
theorem mw_1018 : (Jvm.Cond.methodLink "ScaleShop$Roads" (84 : Nat) ({ cls := "ScaleShop$Roads", name := "uniteGroups", desc := "(II)V" } : Jvm.MethodName)) ∈ ws0 := zm (tb_4 (x16 (x16 (x16 (x16 (x16 (x16 (x16 (x16 (x16 (x16 (x16 (x16 (x1 (x1 (x1 (x1 (x1 (x1 (x1 (x1 (xh)))))))))))))))))))))) rfl
theorem mw_1020 : (Jvm.Cond.instanceMethod ({ cls := "ScaleShop$Roads", name := "uniteGroups", desc := "(II)V" } : Jvm.MethodName)) ∈ ws0 := zm (tb_4 (x16 (x16 (x16 (x16 (x16 (x16 (x16 (x16 (x16 (x16 (x16 (x16 (x1 (x1 (x1 (x1 (x1 (x1 (x1 (x1 (x1 (x1 (xh)))))))))))))))))))))))) rfl
theorem mc_yX6_uniteGroups : (Cond.code yX6_uniteGroups cX6_uniteGroups 4 none) ∈ ws0 := zm (tb_4 (x16 (x16 (x16 (x16 (x16 (x16 (x16 (x16 (x16 (x16 (x16 (x16 (x1 (x1 (x1 (x1 (x1 (x1 (x1 (x1 (x1 (x1 (x1 (xh))))))))))))))))))))))))) rfl
theorem mw_1022 : (Jvm.Cond.methodLink "ScaleShop$Roads" (88 : Nat) ({ cls := "ScaleShop$Feature", name := "leave", desc := "(I)V" } : Jvm.MethodName)) ∈ ws0 := zm (tb_4 (x16 (x16 (x16 (x16 (x16 (x16 (x16 (x16 (x16 (x16 (x16 (x16 (x1 (x1 (x1 (x1 (x1 (x1 (x1 (x1 (x1 (x1 (x1 (x1 (xh)))))))))))))))))))))))))) rfl
theorem mw_1023 : (Jvm.Cond.methodLink "ScaleShopLaw" (72 : Nat) ({ cls := "ScaleShop", name := "run", desc := "(I)I" } : Jvm.MethodName)) ∈ ws0 := zm (tb_4 (x16 (x16 (x16 (x16 (x16 (x16 (x16 (x16 (x16 (x16 (x16 (x16 (x1 (x1 (x1 (x1 (x1 (x1 (x1 (x1 (x1 (x1 (x1 (x1 (x1 (xh))))))))))))))))))))))))))) rfl
theorem mw_1024 : (Jvm.Cond.instanceMethod ({ cls := "ScaleShop", name := "run", desc := "(I)I" } : Jvm.MethodName)) ∈ ws0 := zm (tb_4 (x16 (x16 (x16 (x16 (x16 (x16 (x16 (x16 (x16 (x16 (x16 (x16 (x1 (x1 (x1 (x1 (x1 (x1 (x1 (x1 (x1 (x1 (x1 (x1 (x1 (x1 (xh)))))))))))))))))))))))))))) rfl
theorem mw_1025 : (Jvm.Cond.selects "ScaleShop" ({ cls := "ScaleShop", name := "run", desc := "(I)I" } : Jvm.MethodName) ({ cls := "ScaleShop", name := "run", desc := "(I)I" } : Jvm.MethodName)) ∈ ws0 := zm (tb_4 (x16 (x16 (x16 (x16 (x16 (x16 (x16 (x16 (x16 (x16 (x16 (x16 (x1 (x1 (x1 (x1 (x1 (x1 (x1 (x1 (x1 (x1 (x1 (x1 (x1 (x1 (x1 (xh))))))))))))))))))))))))))))) rfl
theorem mc_yX10_run : (Cond.code yX10_run cX10_run 7 (some .int)) ∈ ws0 := zm (tb_4 (x16 (x16 (x16 (x16 (x16 (x16 (x16 (x16 (x16 (x16 (x16 (x16 (x16 (xh))))))))))))))) rfl
theorem mw_1027 : (Jvm.Cond.methodLink "ScaleShop" (240 : Nat) ({ cls := "ScaleShop$Sheet", name := "rowThere", desc := "(I)LScaleShop$Row;" } : Jvm.MethodName)) ∈ ws0 := zm (tb_4 (x16 (x16 (x16 (x16 (x16 (x16 (x16 (x16 (x16 (x16 (x16 (x16 (x16 (x1 (xh)))))))))))))))) rfl
theorem mw_1028 : (Jvm.Cond.methodLink "ScaleShopLaw" (77 : Nat) ({ cls := "ScaleShop", name := "undo", desc := "()I" } : Jvm.MethodName)) ∈ ws0 := zm (tb_4 (x16 (x16 (x16 (x16 (x16 (x16 (x16 (x16 (x16 (x16 (x16 (x16 (x16 (x1 (x1 (xh))))))))))))))))) rfl
theorem mw_1029 : (Jvm.Cond.instanceMethod ({ cls := "ScaleShop", name := "undo", desc := "()I" } : Jvm.MethodName)) ∈ ws0 := zm (tb_4 (x16 (x16 (x16 (x16 (x16 (x16 (x16 (x16 (x16 (x16 (x16 (x16 (x16 (x1 (x1 (x1 (xh)))))))))))))))))) rfl
theorem mw_1030 : (Jvm.Cond.selects "ScaleShop" ({ cls := "ScaleShop", name := "undo", desc := "()I" } : Jvm.MethodName) ({ cls := "ScaleShop", name := "undo", desc := "()I" } : Jvm.MethodName)) ∈ ws0 := zm (tb_4 (x16 (x16 (x16 (x16 (x16 (x16 (x16 (x16 (x16 (x16 (x16 (x16 (x16 (x1 (x1 (x1 (x1 (xh))))))))))))))))))) rfl
theorem mc_yX10_undo : (Cond.code yX10_undo cX10_undo 2 (some .int)) ∈ ws0 := zm (tb_4 (x16 (x16 (x16 (x16 (x16 (x16 (x16 (x16 (x16 (x16 (x16 (x16 (x16 (x1 (x1 (x1 (x1 (x1 (xh)))))))))))))))))))) rfl
theorem mw_1032 : (Jvm.Cond.methodLink "ScaleShop" (247 : Nat) ({ cls := "java/util/ArrayList", name := "get", desc := "(I)Ljava/lang/Object;" } : Jvm.MethodName)) ∈ ws0 := zm (tb_4 (x16 (x16 (x16 (x16 (x16 (x16 (x16 (x16 (x16 (x16 (x16 (x16 (x16 (x1 (x1 (x1 (x1 (x1 (x1 (xh))))))))))))))))))))) rfl
theorem mw_1033 : (Jvm.Cond.instanceMethod ({ cls := "java/util/ArrayList", name := "get", desc := "(I)Ljava/lang/Object;" } : Jvm.MethodName)) ∈ ws0 := zm (tb_4 (x16 (x16 (x16 (x16 (x16 (x16 (x16 (x16 (x16 (x16 (x16 (x16 (x16 (x1 (x1 (x1 (x1 (x1 (x1 (x1 (xh)))))))))))))))))))))) rfl
theorem mw_1034 : (Jvm.Cond.selects "java/util/ArrayList" ({ cls := "java/util/ArrayList", name := "get", desc := "(I)Ljava/lang/Object;" } : Jvm.MethodName) ({ cls := "java/util/ArrayList", name := "get", desc := "(I)Ljava/lang/Object;" } : Jvm.MethodName)) ∈ ws0 := zm (tb_4 (x16 (x16 (x16 (x16 (x16 (x16 (x16 (x16 (x16 (x16 (x16 (x16 (x16 (x1 (x1 (x1 (x1 (x1 (x1 (x1 (x1 (xh))))))))))))))))))))))) rfl
theorem mc_yJx4a65c_get_915e3 : (Cond.code yJx4a65c_get_915e3 cJx4a65c_get_915e3 2 (some (.object "java/lang/Object"))) ∈ ws0 := zm (tb_4 (x16 (x16 (x16 (x16 (x16 (x16 (x16 (x16 (x16 (x16 (x16 (x16 (x16 (x1 (x1 (x1 (x1 (x1 (x1 (x1 (x1 (x1 (xh)))))))))))))))))))))))) rfl
theorem mw_1036 : (Jvm.Cond.methodLink "java/util/ArrayList" (123 : Nat) ({ cls := "java/util/ArrayList", name := "elementData", desc := "(I)Ljava/lang/Object;" } : Jvm.MethodName)) ∈ ws0 := zm (tb_4 (x16 (x16 (x16 (x16 (x16 (x16 (x16 (x16 (x16 (x16 (x16 (x16 (x16 (x1 (x1 (x1 (x1 (x1 (x1 (x1 (x1 (x1 (x1 (xh))))))))))))))))))))))))) rfl
theorem mw_1037 : (Jvm.Cond.instanceMethod ({ cls := "java/util/ArrayList", name := "elementData", desc := "(I)Ljava/lang/Object;" } : Jvm.MethodName)) ∈ ws0 := zm (tb_4 (x16 (x16 (x16 (x16 (x16 (x16 (x16 (x16 (x16 (x16 (x16 (x16 (x16 (x1 (x1 (x1 (x1 (x1 (x1 (x1 (x1 (x1 (x1 (x1 (xh)))))))))))))))))))))))))) rfl
theorem mw_1038 : (Jvm.Cond.selects "java/util/ArrayList" ({ cls := "java/util/ArrayList", name := "elementData", desc := "(I)Ljava/lang/Object;" } : Jvm.MethodName) ({ cls := "java/util/ArrayList", name := "elementData", desc := "(I)Ljava/lang/Object;" } : Jvm.MethodName)) ∈ ws0 := zm (tb_4 (x16 (x16 (x16 (x16 (x16 (x16 (x16 (x16 (x16 (x16 (x16 (x16 (x16 (x1 (x1 (x1 (x1 (x1 (x1 (x1 (x1 (x1 (x1 (x1 (x1 (xh))))))))))))))))))))))))))) rfl
theorem mc_yJx4a65c_elementData_915e3 : (Cond.code yJx4a65c_elementData_915e3 cJx4a65c_elementData_915e3 2 (some (.object "java/lang/Object"))) ∈ ws0 := zm (tb_4 (x16 (x16 (x16 (x16 (x16 (x16 (x16 (x16 (x16 (x16 (x16 (x16 (x16 (x1 (x1 (x1 (x1 (x1 (x1 (x1 (x1 (x1 (x1 (x1 (x1 (x1 (xh)))))))))))))))))))))))))))) rfl
theorem mw_1040 : (Jvm.Cond.methodLink "ScaleShop" (253 : Nat) ({ cls := "ScaleShop$Step", name := "takeBack", desc := "()V" } : Jvm.MethodName)) ∈ ws0 := zm (tb_4 (x16 (x16 (x16 (x16 (x16 (x16 (x16 (x16 (x16 (x16 (x16 (x16 (x16 (x1 (x1 (x1 (x1 (x1 (x1 (x1 (x1 (x1 (x1 (x1 (x1 (x1 (x1 (xh))))))))))))))))))))))))))))) rfl
theorem mw_1041 : (Jvm.Cond.instanceMethod ({ cls := "ScaleShop$Step", name := "takeBack", desc := "()V" } : Jvm.MethodName)) ∈ ws0 := zm (tb_4 (x16 (x16 (x16 (x16 (x16 (x16 (x16 (x16 (x16 (x16 (x16 (x16 (x16 (x1 (x1 (x1 (x1 (x1 (x1 (x1 (x1 (x1 (x1 (x1 (x1 (x1 (x1 (x1 (xh)))))))))))))))))))))))))))))) rfl
theorem mw_1042 : (Jvm.Cond.selects "ScaleShop$Step" ({ cls := "ScaleShop$Step", name := "takeBack", desc := "()V" } : Jvm.MethodName) ({ cls := "ScaleShop$Step", name := "takeBack", desc := "()V" } : Jvm.MethodName)) ∈ ws0 := zm (tb_4 (x16 (x16 (x16 (x16 (x16 (x16 (x16 (x16 (x16 (x16 (x16 (x16 (x16 (x16 (xh)))))))))))))))) rfl
theorem mc_yX9_takeBack : (Cond.code yX9_takeBack cX9_takeBack 2 none) ∈ ws0 := zm (tb_4 (x16 (x16 (x16 (x16 (x16 (x16 (x16 (x16 (x16 (x16 (x16 (x16 (x16 (x16 (x1 (xh))))))))))))))))) rfl
theorem mw_1044 : (Jvm.Cond.methodLink "ScaleShop" (260 : Nat) ({ cls := "ScaleShop$Sheet", name := "removeLast", desc := "()V" } : Jvm.MethodName)) ∈ ws0 := zm (tb_4 (x16 (x16 (x16 (x16 (x16 (x16 (x16 (x16 (x16 (x16 (x16 (x16 (x16 (x16 (x1 (x1 (xh)))))))))))))))))) rfl
theorem mw_1045 : (Jvm.Cond.instanceMethod ({ cls := "ScaleShop$Sheet", name := "removeLast", desc := "()V" } : Jvm.MethodName)) ∈ ws0 := zm (tb_4 (x16 (x16 (x16 (x16 (x16 (x16 (x16 (x16 (x16 (x16 (x16 (x16 (x16 (x16 (x1 (x1 (x1 (xh))))))))))))))))))) rfl
theorem mw_1046 : (Jvm.Cond.selects "ScaleShop$Sheet" ({ cls := "ScaleShop$Sheet", name := "removeLast", desc := "()V" } : Jvm.MethodName) ({ cls := "ScaleShop$Sheet", name := "removeLast", desc := "()V" } : Jvm.MethodName)) ∈ ws0 := zm (tb_4 (x16 (x16 (x16 (x16 (x16 (x16 (x16 (x16 (x16 (x16 (x16 (x16 (x16 (x16 (x1 (x1 (x1 (x1 (xh)))))))))))))))))))) rfl
theorem mc_yX8_removeLast : (Cond.code yX8_removeLast cX8_removeLast 1 none) ∈ ws0 := zm (tb_4 (x16 (x16 (x16 (x16 (x16 (x16 (x16 (x16 (x16 (x16 (x16 (x16 (x16 (x16 (x1 (x1 (x1 (x1 (x1 (xh))))))))))))))))))))) rfl
theorem mw_1048 : (Jvm.Cond.methodLink "ScaleShop$Sheet" (25 : Nat) ({ cls := "java/lang/Math", name := "max", desc := "(II)I" } : Jvm.MethodName)) ∈ ws0 := zm (tb_4 (x16 (x16 (x16 (x16 (x16 (x16 (x16 (x16 (x16 (x16 (x16 (x16 (x16 (x16 (x1 (x1 (x1 (x1 (x1 (x1 (xh)))))))))))))))))))))) rfl
theorem mw_1049 : (Jvm.Cond.methodLink "ScaleShopLaw" (81 : Nat) ({ cls := "ScaleShop", name := "redo", desc := "()I" } : Jvm.MethodName)) ∈ ws0 := zm (tb_4 (x16 (x16 (x16 (x16 (x16 (x16 (x16 (x16 (x16 (x16 (x16 (x16 (x16 (x16 (x1 (x1 (x1 (x1 (x1 (x1 (x1 (xh))))))))))))))))))))))) rfl
theorem mw_1050 : (Jvm.Cond.instanceMethod ({ cls := "ScaleShop", name := "redo", desc := "()I" } : Jvm.MethodName)) ∈ ws0 := zm (tb_4 (x16 (x16 (x16 (x16 (x16 (x16 (x16 (x16 (x16 (x16 (x16 (x16 (x16 (x16 (x1 (x1 (x1 (x1 (x1 (x1 (x1 (x1 (xh)))))))))))))))))))))))) rfl
theorem mw_1051 : (Jvm.Cond.selects "ScaleShop" ({ cls := "ScaleShop", name := "redo", desc := "()I" } : Jvm.MethodName) ({ cls := "ScaleShop", name := "redo", desc := "()I" } : Jvm.MethodName)) ∈ ws0 := zm (tb_4 (x16 (x16 (x16 (x16 (x16 (x16 (x16 (x16 (x16 (x16 (x16 (x16 (x16 (x16 (x1 (x1 (x1 (x1 (x1 (x1 (x1 (x1 (x1 (xh))))))))))))))))))))))))) rfl
theorem mc_yX10_redo : (Cond.code yX10_redo cX10_redo 2 (some .int)) ∈ ws0 := zm (tb_4 (x16 (x16 (x16 (x16 (x16 (x16 (x16 (x16 (x16 (x16 (x16 (x16 (x16 (x16 (x1 (x1 (x1 (x1 (x1 (x1 (x1 (x1 (x1 (x1 (xh)))))))))))))))))))))))))) rfl
theorem mw_1053 : (Jvm.Cond.methodLink "ScaleShop" (263 : Nat) ({ cls := "ScaleShop$Step", name := "repeat", desc := "()V" } : Jvm.MethodName)) ∈ ws0 := zm (tb_4 (x16 (x16 (x16 (x16 (x16 (x16 (x16 (x16 (x16 (x16 (x16 (x16 (x16 (x16 (x1 (x1 (x1 (x1 (x1 (x1 (x1 (x1 (x1 (x1 (x1 (xh))))))))))))))))))))))))))) rfl
theorem mw_1054 : (Jvm.Cond.instanceMethod ({ cls := "ScaleShop$Step", name := "repeat", desc := "()V" } : Jvm.MethodName)) ∈ ws0 := zm (tb_4 (x16 (x16 (x16 (x16 (x16 (x16 (x16 (x16 (x16 (x16 (x16 (x16 (x16 (x16 (x1 (x1 (x1 (x1 (x1 (x1 (x1 (x1 (x1 (x1 (x1 (x1 (xh)))))))))))))))))))))))))))) rfl
theorem mw_1055 : (Jvm.Cond.selects "ScaleShop$Step" ({ cls := "ScaleShop$Step", name := "repeat", desc := "()V" } : Jvm.MethodName) ({ cls := "ScaleShop$Step", name := "repeat", desc := "()V" } : Jvm.MethodName)) ∈ ws0 := zm (tb_4 (x16 (x16 (x16 (x16 (x16 (x16 (x16 (x16 (x16 (x16 (x16 (x16 (x16 (x16 (x1 (x1 (x1 (x1 (x1 (x1 (x1 (x1 (x1 (x1 (x1 (x1 (x1 (xh))))))))))))))))))))))))))))) rfl
theorem mc_yX9_repeat : (Cond.code yX9_repeat cX9_repeat 2 none) ∈ ws0 := zm (tb_4 (x16 (x16 (x16 (x16 (x16 (x16 (x16 (x16 (x16 (x16 (x16 (x16 (x16 (x16 (x1 (x1 (x1 (x1 (x1 (x1 (x1 (x1 (x1 (x1 (x1 (x1 (x1 (x1 (xh)))))))))))))))))))))))))))))) rfl
theorem mw_1057 : (Jvm.Cond.methodLink "ScaleShopLaw" (85 : Nat) ({ cls := "ScaleShop", name := "meets", desc := "(II)Z" } : Jvm.MethodName)) ∈ ws0 := zm (tb_4 (x16 (x16 (x16 (x16 (x16 (x16 (x16 (x16 (x16 (x16 (x16 (x16 (x16 (x16 (x1 (x1 (x1 (x1 (x1 (x1 (x1 (x1 (x1 (x1 (x1 (x1 (x1 (x1 (x1 (xh))))))))))))))))))))))))))))))) rfl
theorem mw_1058 : (Jvm.Cond.instanceMethod ({ cls := "ScaleShop", name := "meets", desc := "(II)Z" } : Jvm.MethodName)) ∈ ws0 := zm (tb_5 (xh)) rfl
theorem mw_1059 : (Jvm.Cond.selects "ScaleShop" ({ cls := "ScaleShop", name := "meets", desc := "(II)Z" } : Jvm.MethodName) ({ cls := "ScaleShop", name := "meets", desc := "(II)Z" } : Jvm.MethodName)) ∈ ws0 := zm (tb_5 (x1 (xh))) rfl
theorem mc_yX10_meets : (Cond.code yX10_meets cX10_meets 5 (some .boolean)) ∈ ws0 := zm (tb_5 (x1 (x1 (xh)))) rfl
theorem mw_1061 : (Jvm.Cond.methodLink "ScaleShop" (266 : Nat) ({ cls := "ScaleShop$Row", name := "touches", desc := "(LScaleShop$Row;)Z" } : Jvm.MethodName)) ∈ ws0 := zm (tb_5 (x1 (x1 (x1 (xh))))) rfl
theorem mw_1062 : (Jvm.Cond.methodLink "ScaleShopLaw" (89 : Nat) ({ cls := "ScaleShop", name := "inside", desc := "(III)I" } : Jvm.MethodName)) ∈ ws0 := zm (tb_5 (x1 (x1 (x1 (x1 (xh)))))) rfl
theorem mw_1063 : (Jvm.Cond.instanceMethod ({ cls := "ScaleShop", name := "inside", desc := "(III)I" } : Jvm.MethodName)) ∈ ws0 := zm (tb_5 (x1 (x1 (x1 (x1 (x1 (xh))))))) rfl
theorem mw_1064 : (Jvm.Cond.selects "ScaleShop" ({ cls := "ScaleShop", name := "inside", desc := "(III)I" } : Jvm.MethodName) ({ cls := "ScaleShop", name := "inside", desc := "(III)I" } : Jvm.MethodName)) ∈ ws0 := zm (tb_5 (x1 (x1 (x1 (x1 (x1 (x1 (xh)))))))) rfl
theorem mc_yX10_inside : (Cond.code yX10_inside cX10_inside 5 (some .int)) ∈ ws0 := zm (tb_5 (x1 (x1 (x1 (x1 (x1 (x1 (x1 (xh))))))))) rfl
theorem mw_1066 : (Jvm.Cond.methodLink "ScaleShop" (274 : Nat) ({ cls := "ScaleShop$Row", name := "where", desc := "(II)I" } : Jvm.MethodName)) ∈ ws0 := zm (tb_5 (x1 (x1 (x1 (x1 (x1 (x1 (x1 (x1 (xh)))))))))) rfl
theorem mw_1067 : (Jvm.Cond.methodLink "ScaleShopLaw" (93 : Nat) ({ cls := "ScaleShop", name := "side", desc := "(IIII)I" } : Jvm.MethodName)) ∈ ws0 := zm (tb_5 (x1 (x1 (x1 (x1 (x1 (x1 (x1 (x1 (x1 (xh))))))))))) rfl
theorem mw_1068 : (Jvm.Cond.instanceMethod ({ cls := "ScaleShop", name := "side", desc := "(IIII)I" } : Jvm.MethodName)) ∈ ws0 := zm (tb_5 (x1 (x1 (x1 (x1 (x1 (x1 (x1 (x1 (x1 (x1 (xh)))))))))))) rfl
theorem mw_1069 : (Jvm.Cond.selects "ScaleShop" ({ cls := "ScaleShop", name := "side", desc := "(IIII)I" } : Jvm.MethodName) ({ cls := "ScaleShop", name := "side", desc := "(IIII)I" } : Jvm.MethodName)) ∈ ws0 := zm (tb_5 (x1 (x1 (x1 (x1 (x1 (x1 (x1 (x1 (x1 (x1 (x1 (xh))))))))))))) rfl
theorem mc_yX10_side : (Cond.code yX10_side cX10_side 8 (some .int)) ∈ ws0 := zm (tb_5 (x1 (x1 (x1 (x1 (x1 (x1 (x1 (x1 (x1 (x1 (x1 (x1 (xh)))))))))))))) rfl
theorem mw_1071 : (Jvm.Cond.methodLink "ScaleShop" (278 : Nat) ({ cls := "ScaleShop$Row", name := "edges", desc := "()I" } : Jvm.MethodName)) ∈ ws0 := zm (tb_5 (x1 (x1 (x1 (x1 (x1 (x1 (x1 (x1 (x1 (x1 (x1 (x1 (x1 (xh))))))))))))))) rfl
theorem mw_1072 : (Jvm.Cond.methodLink "ScaleShop" (281 : Nat) ({ cls := "ScaleShop$Row", name := "turn", desc := "(III)I" } : Jvm.MethodName)) ∈ ws0 := zm (tb_5 (x1 (x1 (x1 (x1 (x1 (x1 (x1 (x1 (x1 (x1 (x1 (x1 (x1 (x1 (xh)))))))))))))))) rfl
theorem mw_1073 : (Jvm.Cond.methodLink "ScaleShopLaw" (97 : Nat) ({ cls := "ScaleShop", name := "near", desc := "(III)J" } : Jvm.MethodName)) ∈ ws0 := zm (tb_5 (x1 (x1 (x1 (x1 (x1 (x1 (x1 (x1 (x1 (x1 (x1 (x1 (x1 (x1 (x1 (xh))))))))))))))))) rfl
theorem mw_1074 : (Jvm.Cond.instanceMethod ({ cls := "ScaleShop", name := "near", desc := "(III)J" } : Jvm.MethodName)) ∈ ws0 := zm (tb_5 (x16 (xh))) rfl
theorem mw_1075 : (Jvm.Cond.selects "ScaleShop" ({ cls := "ScaleShop", name := "near", desc := "(III)J" } : Jvm.MethodName) ({ cls := "ScaleShop", name := "near", desc := "(III)J" } : Jvm.MethodName)) ∈ ws0 := zm (tb_5 (x16 (x1 (xh)))) rfl
theorem mc_yX10_near : (Cond.code yX10_near cX10_near 6 (some .long)) ∈ ws0 := zm (tb_5 (x16 (x1 (x1 (xh))))) rfl
theorem mw_1077 : (Jvm.Cond.constantLong "ScaleShop" (285 : Nat) (-1 : Int64)) ∈ ws0 := zm (tb_5 (x16 (x1 (x1 (x1 (xh)))))) rfl
theorem mw_1078 : (Jvm.Cond.methodLink "ScaleShop" (287 : Nat) ({ cls := "ScaleShop$Fraction", name := "reduced", desc := "(I)J" } : Jvm.MethodName)) ∈ ws0 := zm (tb_5 (x16 (x1 (x1 (x1 (x1 (xh))))))) rfl
theorem mw_1079 : (Jvm.Cond.instanceMethod ({ cls := "ScaleShop$Fraction", name := "reduced", desc := "(I)J" } : Jvm.MethodName)) ∈ ws0 := zm (tb_5 (x16 (x1 (x1 (x1 (x1 (x1 (xh)))))))) rfl
theorem mw_1080 : (Jvm.Cond.selects "ScaleShop$Fraction" ({ cls := "ScaleShop$Fraction", name := "reduced", desc := "(I)J" } : Jvm.MethodName) ({ cls := "ScaleShop$Fraction", name := "reduced", desc := "(I)J" } : Jvm.MethodName)) ∈ ws0 := zm (tb_5 (x16 (x1 (x1 (x1 (x1 (x1 (x1 (xh))))))))) rfl
theorem mc_yX3_reduced : (Cond.code yX3_reduced cX3_reduced 9 (some .long)) ∈ ws0 := zm (tb_5 (x16 (x1 (x1 (x1 (x1 (x1 (x1 (x1 (xh)))))))))) rfl
theorem mw_1082 : (Jvm.Cond.methodLink "ScaleShopLaw" (102 : Nat) ({ cls := "ScaleShop", name := "clashes", desc := "(I)I" } : Jvm.MethodName)) ∈ ws0 := zm (tb_5 (x16 (x1 (x1 (x1 (x1 (x1 (x1 (x1 (x1 (xh))))))))))) rfl
theorem mw_1083 : (Jvm.Cond.instanceMethod ({ cls := "ScaleShop", name := "clashes", desc := "(I)I" } : Jvm.MethodName)) ∈ ws0 := zm (tb_5 (x16 (x1 (x1 (x1 (x1 (x1 (x1 (x1 (x1 (x1 (xh)))))))))))) rfl
theorem mw_1084 : (Jvm.Cond.selects "ScaleShop" ({ cls := "ScaleShop", name := "clashes", desc := "(I)I" } : Jvm.MethodName) ({ cls := "ScaleShop", name := "clashes", desc := "(I)I" } : Jvm.MethodName)) ∈ ws0 := zm (tb_5 (x16 (x1 (x1 (x1 (x1 (x1 (x1 (x1 (x1 (x1 (x1 (xh))))))))))))) rfl
theorem mc_yX10_clashes : (Cond.code yX10_clashes cX10_clashes 5 (some .int)) ∈ ws0 := zm (tb_5 (x16 (x1 (x1 (x1 (x1 (x1 (x1 (x1 (x1 (x1 (x1 (x1 (xh)))))))))))))) rfl
theorem mw_1086 : (Jvm.Cond.methodLink "ScaleShop" (291 : Nat) ({ cls := "ScaleShop", name := "nextClash", desc := "(II)I" } : Jvm.MethodName)) ∈ ws0 := zm (tb_5 (x16 (x1 (x1 (x1 (x1 (x1 (x1 (x1 (x1 (x1 (x1 (x1 (x1 (xh))))))))))))))) rfl
theorem mw_1088 : (Jvm.Cond.instanceMethod ({ cls := "ScaleShop", name := "nextClash", desc := "(II)I" } : Jvm.MethodName)) ∈ ws0 := zm (tb_5 (x16 (x1 (x1 (x1 (x1 (x1 (x1 (x1 (x1 (x1 (x1 (x1 (x1 (x1 (x1 (xh))))))))))))))))) rfl
theorem mc_yX10_nextClash : (Cond.code yX10_nextClash cX10_nextClash 7 (some .int)) ∈ ws0 := zm (tb_5 (x16 (x1 (x1 (x1 (x1 (x1 (x1 (x1 (x1 (x1 (x1 (x1 (x1 (x1 (x1 (x1 (xh)))))))))))))))))) rfl
theorem mw_1090 : (Jvm.Cond.methodLink "ScaleShop" (413 : Nat) ({ cls := "ScaleShop", name := "isClash", desc := "(III)Z" } : Jvm.MethodName)) ∈ ws0 := zm (tb_5 (x16 (x16 (xh)))) rfl
theorem mw_1092 : (Jvm.Cond.instanceMethod ({ cls := "ScaleShop", name := "isClash", desc := "(III)Z" } : Jvm.MethodName)) ∈ ws0 := zm (tb_5 (x16 (x16 (x1 (x1 (xh)))))) rfl
theorem mc_yX10_isClash : (Cond.code yX10_isClash cX10_isClash 9 (some .boolean)) ∈ ws0 := zm (tb_5 (x16 (x16 (x1 (x1 (x1 (xh))))))) rfl
theorem mw_1094 : (Jvm.Cond.methodLink "ScaleShop" (416 : Nat) ({ cls := "ScaleShop$Box", name := "squareApart", desc := "(LScaleShop$Box;)I" } : Jvm.MethodName)) ∈ ws0 := zm (tb_5 (x16 (x16 (x1 (x1 (x1 (x1 (xh)))))))) rfl
theorem mw_1095 : (Jvm.Cond.methodLink "ScaleShop" (420 : Nat) ({ cls := "ScaleShop$Fraction", name := "isHalfBelow", desc := "(I)Z" } : Jvm.MethodName)) ∈ ws0 := zm (tb_5 (x16 (x16 (x1 (x1 (x1 (x1 (x1 (xh))))))))) rfl
theorem mw_1096 : (Jvm.Cond.instanceMethod ({ cls := "ScaleShop$Fraction", name := "isHalfBelow", desc := "(I)Z" } : Jvm.MethodName)) ∈ ws0 := zm (tb_5 (x16 (x16 (x1 (x1 (x1 (x1 (x1 (x1 (xh)))))))))) rfl
theorem mw_1097 : (Jvm.Cond.selects "ScaleShop$Fraction" ({ cls := "ScaleShop$Fraction", name := "isHalfBelow", desc := "(I)Z" } : Jvm.MethodName) ({ cls := "ScaleShop$Fraction", name := "isHalfBelow", desc := "(I)Z" } : Jvm.MethodName)) ∈ ws0 := zm (tb_5 (x16 (x16 (x1 (x1 (x1 (x1 (x1 (x1 (x1 (xh))))))))))) rfl
theorem mc_yX3_isHalfBelow : (Cond.code yX3_isHalfBelow cX3_isHalfBelow 2 (some .boolean)) ∈ ws0 := zm (tb_5 (x16 (x16 (x1 (x1 (x1 (x1 (x1 (x1 (x1 (x1 (xh)))))))))))) rfl
theorem mw_1099 : (Jvm.Cond.constantLong "ScaleShop$Fraction" (20 : Nat) (4 : Int64)) ∈ ws0 := zm (tb_5 (x16 (x16 (x1 (x1 (x1 (x1 (x1 (x1 (x1 (x1 (x1 (xh))))))))))))) rfl
theorem mw_1100 : (Jvm.Cond.constant "ScaleShop" (294 : Nat) (40000 : Int32)) ∈ ws0 := zm (tb_5 (x16 (x16 (x1 (x1 (x1 (x1 (x1 (x1 (x1 (x1 (x1 (x1 (xh)))))))))))))) rfl
theorem mw_1101 : (Jvm.Cond.methodLink "ScaleShopLaw" (106 : Nat) ({ cls := "ScaleShop", name := "clash", desc := "(III)I" } : Jvm.MethodName)) ∈ ws0 := zm (tb_5 (x16 (x16 (x1 (x1 (x1 (x1 (x1 (x1 (x1 (x1 (x1 (x1 (x1 (xh))))))))))))))) rfl
theorem mw_1102 : (Jvm.Cond.instanceMethod ({ cls := "ScaleShop", name := "clash", desc := "(III)I" } : Jvm.MethodName)) ∈ ws0 := zm (tb_5 (x16 (x16 (x1 (x1 (x1 (x1 (x1 (x1 (x1 (x1 (x1 (x1 (x1 (x1 (xh)))))))))))))))) rfl
theorem mw_1103 : (Jvm.Cond.selects "ScaleShop" ({ cls := "ScaleShop", name := "clash", desc := "(III)I" } : Jvm.MethodName) ({ cls := "ScaleShop", name := "clash", desc := "(III)I" } : Jvm.MethodName)) ∈ ws0 := zm (tb_5 (x16 (x16 (x1 (x1 (x1 (x1 (x1 (x1 (x1 (x1 (x1 (x1 (x1 (x1 (x1 (xh))))))))))))))))) rfl
theorem mc_yX10_clash : (Cond.code yX10_clash cX10_clash 6 (some .int)) ∈ ws0 := zm (tb_5 (x16 (x16 (x1 (x1 (x1 (x1 (x1 (x1 (x1 (x1 (x1 (x1 (x1 (x1 (x1 (x1 (xh)))))))))))))))))) rfl
theorem mw_1105 : (Jvm.Cond.methodLink "ScaleShopLaw" (110 : Nat) ({ cls := "ScaleShop", name := "far", desc := "(II)J" } : Jvm.MethodName)) ∈ ws0 := zm (tb_5 (x16 (x16 (x1 (x1 (x1 (x1 (x1 (x1 (x1 (x1 (x1 (x1 (x1 (x1 (x1 (x1 (x1 (xh))))))))))))))))))) rfl
theorem mw_1106 : (Jvm.Cond.instanceMethod ({ cls := "ScaleShop", name := "far", desc := "(II)J" } : Jvm.MethodName)) ∈ ws0 := zm (tb_5 (x16 (x16 (x16 (xh))))) rfl
theorem mw_1107 : (Jvm.Cond.selects "ScaleShop" ({ cls := "ScaleShop", name := "far", desc := "(II)J" } : Jvm.MethodName) ({ cls := "ScaleShop", name := "far", desc := "(II)J" } : Jvm.MethodName)) ∈ ws0 := zm (tb_5 (x16 (x16 (x16 (x1 (xh)))))) rfl
theorem mc_yX10_far : (Cond.code yX10_far cX10_far 6 (some .long)) ∈ ws0 := zm (tb_5 (x16 (x16 (x16 (x1 (x1 (xh))))))) rfl
theorem mw_1109 : (Jvm.Cond.methodLink "ScaleShop" (295 : Nat) ({ cls := "ScaleShop$Fraction", name := "become", desc := "(JJ)V" } : Jvm.MethodName)) ∈ ws0 := zm (tb_5 (x16 (x16 (x16 (x1 (x1 (x1 (xh)))))))) rfl
theorem mw_1110 : (Jvm.Cond.methodLink "ScaleShop" (305 : Nat) ({ cls := "ScaleShop$Fraction", name := "clear", desc := "()V" } : Jvm.MethodName)) ∈ ws0 := zm (tb_5 (x16 (x16 (x16 (x1 (x1 (x1 (x1 (xh))))))))) rfl
theorem mw_1111 : (Jvm.Cond.methodLink "ScaleShop" (315 : Nat) ({ cls := "ScaleShop$Fraction", name := "offerFrom", desc := "(IILScaleShop$Row;)V" } : Jvm.MethodName)) ∈ ws0 := zm (tb_5 (x16 (x16 (x16 (x1 (x1 (x1 (x1 (x1 (xh)))))))))) rfl
theorem mw_1112 : (Jvm.Cond.methodLink "ScaleShop" (319 : Nat) ({ cls := "ScaleShop$Fraction", name := "isBelow", desc := "(LScaleShop$Fraction;)Z" } : Jvm.MethodName)) ∈ ws0 := zm (tb_5 (x16 (x16 (x16 (x1 (x1 (x1 (x1 (x1 (x1 (xh))))))))))) rfl
theorem mw_1113 : (Jvm.Cond.instanceMethod ({ cls := "ScaleShop$Fraction", name := "isBelow", desc := "(LScaleShop$Fraction;)Z" } : Jvm.MethodName)) ∈ ws0 := zm (tb_5 (x16 (x16 (x16 (x1 (x1 (x1 (x1 (x1 (x1 (x1 (xh)))))))))))) rfl
theorem mw_1114 : (Jvm.Cond.selects "ScaleShop$Fraction" ({ cls := "ScaleShop$Fraction", name := "isBelow", desc := "(LScaleShop$Fraction;)Z" } : Jvm.MethodName) ({ cls := "ScaleShop$Fraction", name := "isBelow", desc := "(LScaleShop$Fraction;)Z" } : Jvm.MethodName)) ∈ ws0 := zm (tb_5 (x16 (x16 (x16 (x1 (x1 (x1 (x1 (x1 (x1 (x1 (x1 (xh))))))))))))) rfl
theorem mc_yX3_isBelow : (Cond.code yX3_isBelow cX3_isBelow 2 (some .boolean)) ∈ ws0 := zm (tb_5 (x16 (x16 (x16 (x1 (x1 (x1 (x1 (x1 (x1 (x1 (x1 (x1 (xh)))))))))))))) rfl
theorem mw_1116 : (Jvm.Cond.methodLink "ScaleShopLaw" (115 : Nat) ({ cls := "ScaleShop", name := "size", desc := "(I)J" } : Jvm.MethodName)) ∈ ws0 := zm (tb_5 (x16 (x16 (x16 (x1 (x1 (x1 (x1 (x1 (x1 (x1 (x1 (x1 (x1 (xh))))))))))))))) rfl
theorem mw_1117 : (Jvm.Cond.instanceMethod ({ cls := "ScaleShop", name := "size", desc := "(I)J" } : Jvm.MethodName)) ∈ ws0 := zm (tb_5 (x16 (x16 (x16 (x1 (x1 (x1 (x1 (x1 (x1 (x1 (x1 (x1 (x1 (x1 (xh)))))))))))))))) rfl
theorem mw_1118 : (Jvm.Cond.selects "ScaleShop" ({ cls := "ScaleShop", name := "size", desc := "(I)J" } : Jvm.MethodName) ({ cls := "ScaleShop", name := "size", desc := "(I)J" } : Jvm.MethodName)) ∈ ws0 := zm (tb_5 (x16 (x16 (x16 (x1 (x1 (x1 (x1 (x1 (x1 (x1 (x1 (x1 (x1 (x1 (x1 (xh))))))))))))))))) rfl
theorem mc_yX10_size : (Cond.code yX10_size cX10_size 3 (some .long)) ∈ ws0 := zm (tb_5 (x16 (x16 (x16 (x1 (x1 (x1 (x1 (x1 (x1 (x1 (x1 (x1 (x1 (x1 (x1 (x1 (xh)))))))))))))))))) rfl
theorem mw_1120 : (Jvm.Cond.methodLink "ScaleShop" (330 : Nat) ({ cls := "ScaleShop$Row", name := "length", desc := "()I" } : Jvm.MethodName)) ∈ ws0 := zm (tb_5 (x16 (x16 (x16 (x1 (x1 (x1 (x1 (x1 (x1 (x1 (x1 (x1 (x1 (x1 (x1 (x1 (x1 (xh))))))))))))))))))) rfl
theorem mw_1121 : (Jvm.Cond.methodLink "ScaleShopLaw" (120 : Nat) ({ cls := "ScaleShop", name := "at", desc := "(III)I" } : Jvm.MethodName)) ∈ ws0 := zm (tb_5 (x16 (x16 (x16 (x1 (x1 (x1 (x1 (x1 (x1 (x1 (x1 (x1 (x1 (x1 (x1 (x1 (x1 (x1 (xh)))))))))))))))))))) rfl
theorem mw_1122 : (Jvm.Cond.instanceMethod ({ cls := "ScaleShop", name := "at", desc := "(III)I" } : Jvm.MethodName)) ∈ ws0 := zm (tb_5 (x16 (x16 (x16 (x16 (xh)))))) rfl
theorem mw_1123 : (Jvm.Cond.selects "ScaleShop" ({ cls := "ScaleShop", name := "at", desc := "(III)I" } : Jvm.MethodName) ({ cls := "ScaleShop", name := "at", desc := "(III)I" } : Jvm.MethodName)) ∈ ws0 := zm (tb_5 (x16 (x16 (x16 (x16 (x1 (xh))))))) rfl
theorem mc_yX10_at : (Cond.code yX10_at cX10_at 6 (some .int)) ∈ ws0 := zm (tb_5 (x16 (x16 (x16 (x16 (x1 (x1 (xh)))))))) rfl
theorem mw_1125 : (Jvm.Cond.methodLink "ScaleShopLaw" (124 : Nat) ({ cls := "ScaleShop", name := "told", desc := "(II)I" } : Jvm.MethodName)) ∈ ws0 := zm (tb_5 (x16 (x16 (x16 (x16 (x1 (x1 (x1 (xh))))))))) rfl
theorem mw_1126 : (Jvm.Cond.instanceMethod ({ cls := "ScaleShop", name := "told", desc := "(II)I" } : Jvm.MethodName)) ∈ ws0 := zm (tb_5 (x16 (x16 (x16 (x16 (x1 (x1 (x1 (x1 (xh)))))))))) rfl
theorem mw_1127 : (Jvm.Cond.selects "ScaleShop" ({ cls := "ScaleShop", name := "told", desc := "(II)I" } : Jvm.MethodName) ({ cls := "ScaleShop", name := "told", desc := "(II)I" } : Jvm.MethodName)) ∈ ws0 := zm (tb_5 (x16 (x16 (x16 (x16 (x1 (x1 (x1 (x1 (x1 (xh))))))))))) rfl
theorem mc_yX10_told : (Cond.code yX10_told cX10_told 4 (some .int)) ∈ ws0 := zm (tb_5 (x16 (x16 (x16 (x16 (x1 (x1 (x1 (x1 (x1 (x1 (xh)))))))))))) rfl
theorem mw_1129 : (Jvm.Cond.methodLink "ScaleShopLaw" (128 : Nat) ({ cls := "ScaleShop", name := "step", desc := "(II)I" } : Jvm.MethodName)) ∈ ws0 := zm (tb_5 (x16 (x16 (x16 (x16 (x1 (x1 (x1 (x1 (x1 (x1 (x1 (xh))))))))))))) rfl
theorem mw_1130 : (Jvm.Cond.instanceMethod ({ cls := "ScaleShop", name := "step", desc := "(II)I" } : Jvm.MethodName)) ∈ ws0 := zm (tb_5 (x16 (x16 (x16 (x16 (x1 (x1 (x1 (x1 (x1 (x1 (x1 (x1 (xh)))))))))))))) rfl
theorem mw_1131 : (Jvm.Cond.selects "ScaleShop" ({ cls := "ScaleShop", name := "step", desc := "(II)I" } : Jvm.MethodName) ({ cls := "ScaleShop", name := "step", desc := "(II)I" } : Jvm.MethodName)) ∈ ws0 := zm (tb_5 (x16 (x16 (x16 (x16 (x1 (x1 (x1 (x1 (x1 (x1 (x1 (x1 (x1 (xh))))))))))))))) rfl
theorem mc_yX10_step : (Cond.code yX10_step cX10_step 4 (some .int)) ∈ ws0 := zm (tb_5 (x16 (x16 (x16 (x16 (x1 (x1 (x1 (x1 (x1 (x1 (x1 (x1 (x1 (x1 (xh)))))))))))))))) rfl
theorem mw_1133 : (Jvm.Cond.methodLink "ScaleShopLaw" (132 : Nat) ({ cls := "ScaleShop", name := "count", desc := "(I)I" } : Jvm.MethodName)) ∈ ws0 := zm (tb_5 (x16 (x16 (x16 (x16 (x1 (x1 (x1 (x1 (x1 (x1 (x1 (x1 (x1 (x1 (x1 (xh))))))))))))))))) rfl
theorem mw_1134 : (Jvm.Cond.instanceMethod ({ cls := "ScaleShop", name := "count", desc := "(I)I" } : Jvm.MethodName)) ∈ ws0 := zm (tb_5 (x16 (x16 (x16 (x16 (x1 (x1 (x1 (x1 (x1 (x1 (x1 (x1 (x1 (x1 (x1 (x1 (xh)))))))))))))))))) rfl
theorem mw_1135 : (Jvm.Cond.selects "ScaleShop" ({ cls := "ScaleShop", name := "count", desc := "(I)I" } : Jvm.MethodName) ({ cls := "ScaleShop", name := "count", desc := "(I)I" } : Jvm.MethodName)) ∈ ws0 := zm (tb_5 (x16 (x16 (x16 (x16 (x1 (x1 (x1 (x1 (x1 (x1 (x1 (x1 (x1 (x1 (x1 (x1 (x1 (xh))))))))))))))))))) rfl
theorem mc_yX10_count : (Cond.code yX10_count cX10_count 2 (some .int)) ∈ ws0 := zm (tb_5 (x16 (x16 (x16 (x16 (x1 (x1 (x1 (x1 (x1 (x1 (x1 (x1 (x1 (x1 (x1 (x1 (x1 (x1 (xh)))))))))))))))))))) rfl
theorem mw_1137 : (Jvm.Cond.methodLink "ScaleShop" (363 : Nat) ({ cls := "ScaleShop$Sheet", name := "inState", desc := "(I)I" } : Jvm.MethodName)) ∈ ws0 := zm (tb_5 (x16 (x16 (x16 (x16 (x1 (x1 (x1 (x1 (x1 (x1 (x1 (x1 (x1 (x1 (x1 (x1 (x1 (x1 (x1 (xh))))))))))))))))))))) rfl
theorem mw_1138 : (Jvm.Cond.instanceMethod ({ cls := "ScaleShop$Sheet", name := "inState", desc := "(I)I" } : Jvm.MethodName)) ∈ ws0 := zm (tb_5 (x16 (x16 (x16 (x16 (x16 (xh))))))) rfl
theorem mw_1139 : (Jvm.Cond.selects "ScaleShop$Sheet" ({ cls := "ScaleShop$Sheet", name := "inState", desc := "(I)I" } : Jvm.MethodName) ({ cls := "ScaleShop$Sheet", name := "inState", desc := "(I)I" } : Jvm.MethodName)) ∈ ws0 := zm (tb_5 (x16 (x16 (x16 (x16 (x16 (x1 (xh)))))))) rfl
theorem mc_yX8_inState : (Cond.code yX8_inState cX8_inState 5 (some .int)) ∈ ws0 := zm (tb_5 (x16 (x16 (x16 (x16 (x16 (x1 (x1 (xh))))))))) rfl
theorem mw_1141 : (Jvm.Cond.methodLink "ScaleShop" (366 : Nat) ({ cls := "ScaleShop$Sheet", name := "torn", desc := "()I" } : Jvm.MethodName)) ∈ ws0 := zm (tb_5 (x16 (x16 (x16 (x16 (x16 (x1 (x1 (x1 (xh)))))))))) rfl
theorem mw_1142 : (Jvm.Cond.instanceMethod ({ cls := "ScaleShop$Sheet", name := "torn", desc := "()I" } : Jvm.MethodName)) ∈ ws0 := zm (tb_5 (x16 (x16 (x16 (x16 (x16 (x1 (x1 (x1 (x1 (xh))))))))))) rfl
theorem mw_1143 : (Jvm.Cond.selects "ScaleShop$Sheet" ({ cls := "ScaleShop$Sheet", name := "torn", desc := "()I" } : Jvm.MethodName) ({ cls := "ScaleShop$Sheet", name := "torn", desc := "()I" } : Jvm.MethodName)) ∈ ws0 := zm (tb_5 (x16 (x16 (x16 (x16 (x16 (x1 (x1 (x1 (x1 (x1 (xh)))))))))))) rfl
theorem mc_yX8_torn : (Cond.code yX8_torn cX8_torn 4 (some .int)) ∈ ws0 := zm (tb_5 (x16 (x16 (x16 (x16 (x16 (x1 (x1 (x1 (x1 (x1 (x1 (xh))))))))))))) rfl
theorem mw_1145 : (Jvm.Cond.methodLink "ScaleShop" (369 : Nat) ({ cls := "ScaleShop$Sheet", name := "cornersThere", desc := "()I" } : Jvm.MethodName)) ∈ ws0 := zm (tb_5 (x16 (x16 (x16 (x16 (x16 (x1 (x1 (x1 (x1 (x1 (x1 (x1 (xh)))))))))))))) rfl
theorem mw_1146 : (Jvm.Cond.instanceMethod ({ cls := "ScaleShop$Sheet", name := "cornersThere", desc := "()I" } : Jvm.MethodName)) ∈ ws0 := zm (tb_5 (x16 (x16 (x16 (x16 (x16 (x1 (x1 (x1 (x1 (x1 (x1 (x1 (x1 (xh))))))))))))))) rfl
theorem mw_1147 : (Jvm.Cond.selects "ScaleShop$Sheet" ({ cls := "ScaleShop$Sheet", name := "cornersThere", desc := "()I" } : Jvm.MethodName) ({ cls := "ScaleShop$Sheet", name := "cornersThere", desc := "()I" } : Jvm.MethodName)) ∈ ws0 := zm (tb_5 (x16 (x16 (x16 (x16 (x16 (x1 (x1 (x1 (x1 (x1 (x1 (x1 (x1 (x1 (xh)))))))))))))))) rfl
theorem mc_yX8_cornersThere : (Cond.code yX8_cornersThere cX8_cornersThere 4 (some .int)) ∈ ws0 := zm (tb_5 (x16 (x16 (x16 (x16 (x16 (x1 (x1 (x1 (x1 (x1 (x1 (x1 (x1 (x1 (x1 (xh))))))))))))))))) rfl
theorem mw_1149 : (Jvm.Cond.methodLink "ScaleShopLaw" (136 : Nat) ({ cls := "ScaleShop", name := "status", desc := "()I" } : Jvm.MethodName)) ∈ ws0 := zm (tb_5 (x16 (x16 (x16 (x16 (x16 (x1 (x1 (x1 (x1 (x1 (x1 (x1 (x1 (x1 (x1 (x1 (xh)))))))))))))))))) rfl
theorem mw_1150 : (Jvm.Cond.instanceMethod ({ cls := "ScaleShop", name := "status", desc := "()I" } : Jvm.MethodName)) ∈ ws0 := zm (tb_5 (x16 (x16 (x16 (x16 (x16 (x1 (x1 (x1 (x1 (x1 (x1 (x1 (x1 (x1 (x1 (x1 (x1 (xh))))))))))))))))))) rfl
theorem mw_1151 : (Jvm.Cond.selects "ScaleShop" ({ cls := "ScaleShop", name := "status", desc := "()I" } : Jvm.MethodName) ({ cls := "ScaleShop", name := "status", desc := "()I" } : Jvm.MethodName)) ∈ ws0 := zm (tb_5 (x16 (x16 (x16 (x16 (x16 (x1 (x1 (x1 (x1 (x1 (x1 (x1 (x1 (x1 (x1 (x1 (x1 (x1 (xh)))))))))))))))))))) rfl
theorem mc_yX10_status : (Cond.code yX10_status cX10_status 1 (some .int)) ∈ ws0 := zm (tb_5 (x16 (x16 (x16 (x16 (x16 (x1 (x1 (x1 (x1 (x1 (x1 (x1 (x1 (x1 (x1 (x1 (x1 (x1 (x1 (xh))))))))))))))))))))) rfl
theorem mw_1153 : (Jvm.Cond.classLink "ScaleShopLaw" (10 : Nat) "ScaleShopModel") ∈ ws0 := zm (tb_5 (x16 (x16 (x16 (x16 (x16 (x1 (x1 (x1 (x1 (x1 (x1 (x1 (x1 (x1 (x1 (x1 (x1 (x1 (x1 (x1 (xh)))))))))))))))))))))) rfl
theorem mw_1154 : (Jvm.Cond.instantiable "ScaleShopModel" (55 : Nat)) ∈ ws0 := zm (tb_5 (x16 (x16 (x16 (x16 (x16 (x16 (xh)))))))) rfl
theorem mw_1155 : (Jvm.Cond.methodLink "ScaleShopLaw" (12 : Nat) ({ cls := "ScaleShopModel", name := "<init>", desc := "()V" } : Jvm.MethodName)) ∈ ws0 := zm (tb_5 (x16 (x16 (x16 (x16 (x16 (x16 (x1 (xh))))))))) rfl
theorem mw_1156 : (Jvm.Cond.instanceMethod ({ cls := "ScaleShopModel", name := "<init>", desc := "()V" } : Jvm.MethodName)) ∈ ws0 := zm (tb_5 (x16 (x16 (x16 (x16 (x16 (x16 (x1 (x1 (xh)))))))))) rfl
theorem mc_yX11_init : (Cond.code yX11_init cX11_init 1 none) ∈ ws0 := zm (tb_5 (x16 (x16 (x16 (x16 (x16 (x16 (x1 (x1 (x1 (xh))))))))))) rfl
theorem mw_1158 : (Jvm.Cond.methodLink "ScaleShopModel" (1 : Nat) ({ cls := "java/lang/Object", name := "<init>", desc := "()V" } : Jvm.MethodName)) ∈ ws0 := zm (tb_5 (x16 (x16 (x16 (x16 (x16 (x16 (x1 (x1 (x1 (x1 (xh)))))))))))) rfl
theorem mw_1159 : (Jvm.Cond.fieldLink "ScaleShopModel" (130 : Nat) "ScaleShopModel" "features" "I") ∈ ws0 := zm (tb_5 (x16 (x16 (x16 (x16 (x16 (x16 (x1 (x1 (x1 (x1 (x1 (xh))))))))))))) rfl
theorem mw_1160 : (Jvm.Cond.fieldLink "ScaleShopModel" (7 : Nat) "ScaleShopModel" "kind" "[I") ∈ ws0 := zm (tb_5 (x16 (x16 (x16 (x16 (x16 (x16 (x1 (x1 (x1 (x1 (x1 (x1 (xh)))))))))))))) rfl
theorem mw_1161 : (Jvm.Cond.fieldLink "ScaleShopModel" (13 : Nat) "ScaleShopModel" "rank" "[I") ∈ ws0 := zm (tb_5 (x16 (x16 (x16 (x16 (x16 (x16 (x1 (x1 (x1 (x1 (x1 (x1 (x1 (xh))))))))))))))) rfl
theorem mw_1162 : (Jvm.Cond.fieldLink "ScaleShopModel" (16 : Nat) "ScaleShopModel" "width" "[I") ∈ ws0 := zm (tb_5 (x16 (x16 (x16 (x16 (x16 (x16 (x1 (x1 (x1 (x1 (x1 (x1 (x1 (x1 (xh)))))))))))))))) rfl
theorem mw_1163 : (Jvm.Cond.fieldLink "ScaleShopModel" (19 : Nat) "ScaleShopModel" "town" "[I") ∈ ws0 := zm (tb_5 (x16 (x16 (x16 (x16 (x16 (x16 (x1 (x1 (x1 (x1 (x1 (x1 (x1 (x1 (x1 (xh))))))))))))))))) rfl
theorem mw_1164 : (Jvm.Cond.fieldLink "ScaleShopModel" (22 : Nat) "ScaleShopModel" "state" "[I") ∈ ws0 := zm (tb_5 (x16 (x16 (x16 (x16 (x16 (x16 (x1 (x1 (x1 (x1 (x1 (x1 (x1 (x1 (x1 (x1 (xh)))))))))))))))))) rfl
theorem mw_1165 : (Jvm.Cond.fieldLink "ScaleShopModel" (25 : Nat) "ScaleShopModel" "torn" "[Z") ∈ ws0 := zm (tb_5 (x16 (x16 (x16 (x16 (x16 (x16 (x1 (x1 (x1 (x1 (x1 (x1 (x1 (x1 (x1 (x1 (x1 (xh))))))))))))))))))) rfl
theorem mw_1166 : (Jvm.Cond.fieldLink "ScaleShopModel" (29 : Nat) "ScaleShopModel" "goneBy" "[I") ∈ ws0 := zm (tb_5 (x16 (x16 (x16 (x16 (x16 (x16 (x1 (x1 (x1 (x1 (x1 (x1 (x1 (x1 (x1 (x1 (x1 (x1 (xh)))))))))))))))))))) rfl
theorem mw_1167 : (Jvm.Cond.fieldLink "ScaleShopModel" (32 : Nat) "ScaleShopModel" "partA" "[I") ∈ ws0 := zm (tb_5 (x16 (x16 (x16 (x16 (x16 (x16 (x1 (x1 (x1 (x1 (x1 (x1 (x1 (x1 (x1 (x1 (x1 (x1 (x1 (xh))))))))))))))))))))) rfl
theorem mw_1168 : (Jvm.Cond.fieldLink "ScaleShopModel" (35 : Nat) "ScaleShopModel" "partB" "[I") ∈ ws0 := zm (tb_5 (x16 (x16 (x16 (x16 (x16 (x16 (x1 (x1 (x1 (x1 (x1 (x1 (x1 (x1 (x1 (x1 (x1 (x1 (x1 (x1 (xh)))))))))))))))))))))) rfl
theorem mw_1169 : (Jvm.Cond.fieldLink "ScaleShopModel" (38 : Nat) "ScaleShopModel" "into" "[I") ∈ ws0 := zm (tb_5 (x16 (x16 (x16 (x16 (x16 (x16 (x1 (x1 (x1 (x1 (x1 (x1 (x1 (x1 (x1 (x1 (x1 (x1 (x1 (x1 (x1 (xh))))))))))))))))))))))) rfl
theorem mw_1170 : (Jvm.Cond.fieldLink "ScaleShopModel" (41 : Nat) "ScaleShopModel" "many" "[I") ∈ ws0 := zm (tb_5 (x16 (x16 (x16 (x16 (x16 (x16 (x16 (xh))))))))) rfl
theorem mw_1171 : (Jvm.Cond.fieldLink "ScaleShopModel" (44 : Nat) "ScaleShopModel" "cx" "[I") ∈ ws0 := zm (tb_5 (x16 (x16 (x16 (x16 (x16 (x16 (x16 (x1 (xh)))))))))) rfl
theorem mw_1172 : (Jvm.Cond.fieldLink "ScaleShopModel" (47 : Nat) "ScaleShopModel" "cy" "[I") ∈ ws0 := zm (tb_5 (x16 (x16 (x16 (x16 (x16 (x16 (x16 (x1 (x1 (xh))))))))))) rfl
theorem mw_1173 : (Jvm.Cond.fieldLink "ScaleShopModel" (119 : Nat) "ScaleShopModel" "status" "I") ∈ ws0 := zm (tb_5 (x16 (x16 (x16 (x16 (x16 (x16 (x16 (x1 (x1 (x1 (xh)))))))))))) rfl
theorem mw_1174 : (Jvm.Cond.fieldLink "ScaleShopModel" (123 : Nat) "ScaleShopModel" "refused" "I") ∈ ws0 := zm (tb_5 (x16 (x16 (x16 (x16 (x16 (x16 (x16 (x1 (x1 (x1 (x1 (xh))))))))))))) rfl
theorem mw_1175 : (Jvm.Cond.fieldLink "ScaleShopModel" (50 : Nat) "ScaleShopModel" "which" "[I") ∈ ws0 := zm (tb_5 (x16 (x16 (x16 (x16 (x16 (x16 (x16 (x1 (x1 (x1 (x1 (x1 (xh)))))))))))))) rfl
theorem mw_1176 : (Jvm.Cond.fieldLink "ScaleShopModel" (53 : Nat) "ScaleShopModel" "of" "[I") ∈ ws0 := zm (tb_5 (x16 (x16 (x16 (x16 (x16 (x16 (x16 (x1 (x1 (x1 (x1 (x1 (x1 (xh))))))))))))))) rfl
theorem mw_1177 : (Jvm.Cond.fieldLink "ScaleShopModel" (56 : Nat) "ScaleShopModel" "went" "[I") ∈ ws0 := zm (tb_5 (x16 (x16 (x16 (x16 (x16 (x16 (x16 (x1 (x1 (x1 (x1 (x1 (x1 (x1 (xh)))))))))))))))) rfl
theorem mw_1178 : (Jvm.Cond.fieldLink "ScaleShopModel" (257 : Nat) "ScaleShopModel" "done" "I") ∈ ws0 := zm (tb_5 (x16 (x16 (x16 (x16 (x16 (x16 (x16 (x1 (x1 (x1 (x1 (x1 (x1 (x1 (x1 (xh))))))))))))))))) rfl
theorem mw_1179 : (Jvm.Cond.fieldLink "ScaleShopModel" (263 : Nat) "ScaleShopModel" "redoable" "I") ∈ ws0 := zm (tb_5 (x16 (x16 (x16 (x16 (x16 (x16 (x16 (x1 (x1 (x1 (x1 (x1 (x1 (x1 (x1 (x1 (xh)))))))))))))))))) rfl
theorem mw_1180 : (Jvm.Cond.fieldLink "ScaleShopModel" (260 : Nat) "ScaleShopModel" "base" "I") ∈ ws0 := zm (tb_5 (x16 (x16 (x16 (x16 (x16 (x16 (x16 (x1 (x1 (x1 (x1 (x1 (x1 (x1 (x1 (x1 (x1 (xh))))))))))))))))))) rfl
theorem mw_1181 : (Jvm.Cond.fieldLink "ScaleShopModel" (59 : Nat) "ScaleShopModel" "lostFeature" "[I") ∈ ws0 := zm (tb_5 (x16 (x16 (x16 (x16 (x16 (x16 (x16 (x1 (x1 (x1 (x1 (x1 (x1 (x1 (x1 (x1 (x1 (x1 (xh)))))))))))))))))))) rfl
theorem mw_1182 : (Jvm.Cond.fieldLink "ScaleShopModel" (62 : Nat) "ScaleShopModel" "lostX" "[I") ∈ ws0 := zm (tb_5 (x16 (x16 (x16 (x16 (x16 (x16 (x16 (x1 (x1 (x1 (x1 (x1 (x1 (x1 (x1 (x1 (x1 (x1 (x1 (xh))))))))))))))))))))) rfl
theorem mw_1183 : (Jvm.Cond.fieldLink "ScaleShopModel" (65 : Nat) "ScaleShopModel" "lostY" "[I") ∈ ws0 := zm (tb_5 (x16 (x16 (x16 (x16 (x16 (x16 (x16 (x1 (x1 (x1 (x1 (x1 (x1 (x1 (x1 (x1 (x1 (x1 (x1 (x1 (xh)))))))))))))))))))))) rfl
theorem mw_1184 : (Jvm.Cond.fieldLink "ScaleShopModel" (68 : Nat) "ScaleShopModel" "lostStep" "[I") ∈ ws0 := zm (tb_5 (x16 (x16 (x16 (x16 (x16 (x16 (x16 (x1 (x1 (x1 (x1 (x1 (x1 (x1 (x1 (x1 (x1 (x1 (x1 (x1 (x1 (xh))))))))))))))))))))))) rfl
theorem mw_1185 : (Jvm.Cond.fieldLink "ScaleShopModel" (279 : Nat) "ScaleShopModel" "lost" "I") ∈ ws0 := zm (tb_5 (x16 (x16 (x16 (x16 (x16 (x16 (x16 (x1 (x1 (x1 (x1 (x1 (x1 (x1 (x1 (x1 (x1 (x1 (x1 (x1 (x1 (x1 (xh)))))))))))))))))))))))) rfl
theorem mw_1186 : (Jvm.Cond.fieldLink "ScaleShopModel" (71 : Nat) "ScaleShopModel" "sheetAt" "[I") ∈ ws0 := zm (tb_5 (x16 (x16 (x16 (x16 (x16 (x16 (x16 (x16 (xh)))))))))) rfl
theorem mw_1187 : (Jvm.Cond.fieldLink "ScaleShopModel" (74 : Nat) "ScaleShopModel" "sheets" "[I") ∈ ws0 := zm (tb_5 (x16 (x16 (x16 (x16 (x16 (x16 (x16 (x16 (x1 (xh))))))))))) rfl
theorem mw_1188 : (Jvm.Cond.fieldLink "ScaleShopModel" (77 : Nat) "ScaleShopModel" "px" "[I") ∈ ws0 := zm (tb_5 (x16 (x16 (x16 (x16 (x16 (x16 (x16 (x16 (x1 (x1 (xh)))))))))))) rfl
theorem mw_1189 : (Jvm.Cond.fieldLink "ScaleShopModel" (80 : Nat) "ScaleShopModel" "py" "[I") ∈ ws0 := zm (tb_5 (x16 (x16 (x16 (x16 (x16 (x16 (x16 (x16 (x1 (x1 (x1 (xh))))))))))))) rfl
theorem mw_1190 : (Jvm.Cond.fieldLink "ScaleShopModel" (137 : Nat) "ScaleShopModel" "pn" "I") ∈ ws0 := zm (tb_5 (x16 (x16 (x16 (x16 (x16 (x16 (x16 (x16 (x1 (x1 (x1 (x1 (xh)))))))))))))) rfl
theorem mw_1191 : (Jvm.Cond.fieldLink "ScaleShopModel" (83 : Nat) "ScaleShopModel" "s" "[I") ∈ ws0 := zm (tb_5 (x16 (x16 (x16 (x16 (x16 (x16 (x16 (x16 (x1 (x1 (x1 (x1 (x1 (xh))))))))))))))) rfl
theorem mw_1192 : (Jvm.Cond.fieldLink "ScaleShopModel" (86 : Nat) "ScaleShopModel" "ox" "[I") ∈ ws0 := zm (tb_5 (x16 (x16 (x16 (x16 (x16 (x16 (x16 (x16 (x1 (x1 (x1 (x1 (x1 (x1 (xh)))))))))))))))) rfl
theorem mw_1193 : (Jvm.Cond.fieldLink "ScaleShopModel" (89 : Nat) "ScaleShopModel" "oy" "[I") ∈ ws0 := zm (tb_5 (x16 (x16 (x16 (x16 (x16 (x16 (x16 (x16 (x1 (x1 (x1 (x1 (x1 (x1 (x1 (xh))))))))))))))))) rfl
theorem mw_1194 : (Jvm.Cond.fieldLink "ScaleShopModel" (191 : Nat) "ScaleShopModel" "on" "I") ∈ ws0 := zm (tb_5 (x16 (x16 (x16 (x16 (x16 (x16 (x16 (x16 (x1 (x1 (x1 (x1 (x1 (x1 (x1 (x1 (xh)))))))))))))))))) rfl
theorem mw_1195 : (Jvm.Cond.fieldLink "ScaleShopModel" (194 : Nat) "ScaleShopModel" "oldKind" "I") ∈ ws0 := zm (tb_5 (x16 (x16 (x16 (x16 (x16 (x16 (x16 (x16 (x1 (x1 (x1 (x1 (x1 (x1 (x1 (x1 (x1 (xh))))))))))))))))))) rfl
theorem mw_1196 : (Jvm.Cond.fieldLink "ScaleShopModel" (92 : Nat) "ScaleShopModel" "met" "[Z") ∈ ws0 := zm (tb_5 (x16 (x16 (x16 (x16 (x16 (x16 (x16 (x16 (x1 (x1 (x1 (x1 (x1 (x1 (x1 (x1 (x1 (x1 (xh)))))))))))))))))))) rfl
theorem mw_1197 : (Jvm.Cond.fieldLink "ScaleShopModel" (95 : Nat) "ScaleShopModel" "within" "[Z") ∈ ws0 := zm (tb_5 (x16 (x16 (x16 (x16 (x16 (x16 (x16 (x16 (x1 (x1 (x1 (x1 (x1 (x1 (x1 (x1 (x1 (x1 (x1 (xh))))))))))))))))))))) rfl
theorem mw_1198 : (Jvm.Cond.fieldLink "ScaleShopModel" (98 : Nat) "ScaleShopModel" "inside" "[Z") ∈ ws0 := zm (tb_5 (x16 (x16 (x16 (x16 (x16 (x16 (x16 (x16 (x1 (x1 (x1 (x1 (x1 (x1 (x1 (x1 (x1 (x1 (x1 (x1 (xh)))))))))))))))))))))) rfl
theorem mw_1199 : (Jvm.Cond.fieldLink "ScaleShopModel" (101 : Nat) "ScaleShopModel" "t" "[I") ∈ ws0 := zm (tb_5 (x16 (x16 (x16 (x16 (x16 (x16 (x16 (x16 (x1 (x1 (x1 (x1 (x1 (x1 (x1 (x1 (x1 (x1 (x1 (x1 (x1 (xh))))))))))))))))))))))) rfl
theorem mw_1200 : (Jvm.Cond.fieldLink "ScaleShopModel" (244 : Nat) "ScaleShopModel" "writeAt" "I") ∈ ws0 := zm (tb_5 (x16 (x16 (x16 (x16 (x16 (x16 (x16 (x16 (x1 (x1 (x1 (x1 (x1 (x1 (x1 (x1 (x1 (x1 (x1 (x1 (x1 (x1 (xh)))))))))))))))))))))))) rfl
theorem mw_1201 : (Jvm.Cond.fieldLink "ScaleShopModel" (250 : Nat) "ScaleShopModel" "readAt" "I") ∈ ws0 := zm (tb_5 (x16 (x16 (x16 (x16 (x16 (x16 (x16 (x16 (x1 (x1 (x1 (x1 (x1 (x1 (x1 (x1 (x1 (x1 (x1 (x1 (x1 (x1 (x1 (xh))))))))))))))))))))))))) rfl
theorem mw_1202 : (Jvm.Cond.fieldLink "ScaleShopModel" (104 : Nat) "ScaleShopModel" "failed" "[Z") ∈ ws0 := zm (tb_5 (x16 (x16 (x16 (x16 (x16 (x16 (x16 (x16 (x16 (xh))))))))))) rfl
theorem mw_1203 : (Jvm.Cond.fieldLink "ScaleShopModel" (346 : Nat) "ScaleShopModel" "lx" "I") ∈ ws0 := zm (tb_5 (x16 (x16 (x16 (x16 (x16 (x16 (x16 (x16 (x16 (x1 (xh)))))))))))) rfl
theorem mw_1204 : (Jvm.Cond.fieldLink "ScaleShopModel" (349 : Nat) "ScaleShopModel" "ly" "I") ∈ ws0 := zm (tb_5 (x16 (x16 (x16 (x16 (x16 (x16 (x16 (x16 (x16 (x1 (x1 (xh))))))))))))) rfl
theorem mw_1205 : (Jvm.Cond.fieldLink "ScaleShopModel" (352 : Nat) "ScaleShopModel" "hx" "I") ∈ ws0 := zm (tb_5 (x16 (x16 (x16 (x16 (x16 (x16 (x16 (x16 (x16 (x1 (x1 (x1 (xh)))))))))))))) rfl
theorem mw_1206 : (Jvm.Cond.fieldLink "ScaleShopModel" (355 : Nat) "ScaleShopModel" "hy" "I") ∈ ws0 := zm (tb_5 (x16 (x16 (x16 (x16 (x16 (x16 (x16 (x16 (x16 (x1 (x1 (x1 (x1 (xh))))))))))))))) rfl
theorem mw_1207 : (Jvm.Cond.fieldLink "ScaleShopModel" (375 : Nat) "ScaleShopModel" "up" "J") ∈ ws0 := zm (tb_5 (x16 (x16 (x16 (x16 (x16 (x16 (x16 (x16 (x16 (x1 (x1 (x1 (x1 (x1 (xh)))))))))))))))) rfl
theorem mw_1208 : (Jvm.Cond.fieldLink "ScaleShopModel" (371 : Nat) "ScaleShopModel" "down" "J") ∈ ws0 := zm (tb_5 (x16 (x16 (x16 (x16 (x16 (x16 (x16 (x16 (x16 (x1 (x1 (x1 (x1 (x1 (x1 (xh))))))))))))))))) rfl
theorem mw_1209 : (Jvm.Cond.fieldLink "ScaleShopModel" (107 : Nat) "ScaleShopModel" "marked" "[Z") ∈ ws0 := zm (tb_5 (x16 (x16 (x16 (x16 (x16 (x16 (x16 (x16 (x16 (x1 (x1 (x1 (x1 (x1 (x1 (x1 (xh)))))))))))))))))) rfl
theorem mw_1210 : (Jvm.Cond.fieldLink "ScaleShopModel" (110 : Nat) "ScaleShopModel" "joinX" "[I") ∈ ws0 := zm (tb_5 (x16 (x16 (x16 (x16 (x16 (x16 (x16 (x16 (x16 (x1 (x1 (x1 (x1 (x1 (x1 (x1 (x1 (xh))))))))))))))))))) rfl
theorem mw_1211 : (Jvm.Cond.fieldLink "ScaleShopModel" (113 : Nat) "ScaleShopModel" "joinY" "[I") ∈ ws0 := zm (tb_5 (x16 (x16 (x16 (x16 (x16 (x16 (x16 (x16 (x16 (x1 (x1 (x1 (x1 (x1 (x1 (x1 (x1 (x1 (xh)))))))))))))))))))) rfl
theorem mw_1212 : (Jvm.Cond.fieldLink "ScaleShopModel" (116 : Nat) "ScaleShopModel" "group" "[I") ∈ ws0 := zm (tb_5 (x16 (x16 (x16 (x16 (x16 (x16 (x16 (x16 (x16 (x1 (x1 (x1 (x1 (x1 (x1 (x1 (x1 (x1 (x1 (xh))))))))))))))))))))) rfl
theorem mw_1213 : (Jvm.Cond.fieldLink "ScaleShopModel" (404 : Nat) "ScaleShopModel" "places" "I") ∈ ws0 := zm (tb_5 (x16 (x16 (x16 (x16 (x16 (x16 (x16 (x16 (x16 (x1 (x1 (x1 (x1 (x1 (x1 (x1 (x1 (x1 (x1 (x1 (xh)))))))))))))))))))))) rfl
theorem mw_1325 : (Jvm.Cond.methodLink "ScaleShopLaw" (17 : Nat) ({ cls := "ScaleShopModel", name := "feature", desc := "(IIII)I" } : Jvm.MethodName)) ∈ ws0 := zm (tb_6 (x16 (x1 (x1 (x1 (x1 (x1 (x1 (x1 (x1 (x1 (x1 (x1 (xh)))))))))))))) rfl
theorem mw_1326 : (Jvm.Cond.instanceMethod ({ cls := "ScaleShopModel", name := "feature", desc := "(IIII)I" } : Jvm.MethodName)) ∈ ws0 := zm (tb_6 (x16 (x1 (x1 (x1 (x1 (x1 (x1 (x1 (x1 (x1 (x1 (x1 (x1 (xh))))))))))))))) rfl
theorem mw_1327 : (Jvm.Cond.selects "ScaleShopModel" ({ cls := "ScaleShopModel", name := "feature", desc := "(IIII)I" } : Jvm.MethodName) ({ cls := "ScaleShopModel", name := "feature", desc := "(IIII)I" } : Jvm.MethodName)) ∈ ws0 := zm (tb_6 (x16 (x1 (x1 (x1 (x1 (x1 (x1 (x1 (x1 (x1 (x1 (x1 (x1 (x1 (xh)))))))))))))))) rfl
theorem mc_yX11_feature : (Cond.code yX11_feature cX11_feature 6 (some .int)) ∈ ws0 := zm (tb_6 (x16 (x1 (x1 (x1 (x1 (x1 (x1 (x1 (x1 (x1 (x1 (x1 (x1 (x1 (x1 (xh))))))))))))))))) rfl
theorem mw_1329 : (Jvm.Cond.methodLink "ScaleShopModel" (126 : Nat) ({ cls := "ScaleShopModel", name := "refuse", desc := "(I)I" } : Jvm.MethodName)) ∈ ws0 := zm (tb_6 (x16 (x1 (x1 (x1 (x1 (x1 (x1 (x1 (x1 (x1 (x1 (x1 (x1 (x1 (x1 (x1 (xh)))))))))))))))))) rfl
theorem mw_1331 : (Jvm.Cond.instanceMethod ({ cls := "ScaleShopModel", name := "refuse", desc := "(I)I" } : Jvm.MethodName)) ∈ ws0 := zm (tb_6 (x16 (x16 (x1 (xh))))) rfl
theorem mc_yX11_refuse : (Cond.code yX11_refuse cX11_refuse 2 (some .int)) ∈ ws0 := zm (tb_6 (x16 (x16 (x1 (x1 (xh)))))) rfl
theorem mw_1333 : (Jvm.Cond.methodLink "ScaleShopModel" (269 : Nat) ({ cls := "ScaleShopModel", name := "begin", desc := "(IIIII)V" } : Jvm.MethodName)) ∈ ws0 := zm (tb_6 (x16 (x16 (x1 (x1 (x1 (xh))))))) rfl
theorem mw_1335 : (Jvm.Cond.instanceMethod ({ cls := "ScaleShopModel", name := "begin", desc := "(IIIII)V" } : Jvm.MethodName)) ∈ ws0 := zm (tb_6 (x16 (x16 (x1 (x1 (x1 (x1 (x1 (xh))))))))) rfl
theorem mc_yX11_begin : (Cond.code yX11_begin cX11_begin 6 none) ∈ ws0 := zm (tb_6 (x16 (x16 (x1 (x1 (x1 (x1 (x1 (x1 (xh)))))))))) rfl
theorem mw_1337 : (Jvm.Cond.methodLink "ScaleShopModel" (273 : Nat) ({ cls := "ScaleShopModel", name := "settle", desc := "()V" } : Jvm.MethodName)) ∈ ws0 := zm (tb_6 (x16 (x16 (x1 (x1 (x1 (x1 (x1 (x1 (x1 (xh))))))))))) rfl
theorem mw_1339 : (Jvm.Cond.instanceMethod ({ cls := "ScaleShopModel", name := "settle", desc := "()V" } : Jvm.MethodName)) ∈ ws0 := zm (tb_6 (x16 (x16 (x1 (x1 (x1 (x1 (x1 (x1 (x1 (x1 (x1 (xh))))))))))))) rfl
theorem mc_yX11_settle : (Cond.code yX11_settle cX11_settle 1 none) ∈ ws0 := zm (tb_6 (x16 (x16 (x1 (x1 (x1 (x1 (x1 (x1 (x1 (x1 (x1 (x1 (xh)))))))))))))) rfl
theorem mw_1341 : (Jvm.Cond.methodLink "ScaleShopLaw" (22 : Nat) ({ cls := "ScaleShopModel", name := "corner", desc := "(III)I" } : Jvm.MethodName)) ∈ ws0 := zm (tb_6 (x16 (x16 (x1 (x1 (x1 (x1 (x1 (x1 (x1 (x1 (x1 (x1 (x1 (xh))))))))))))))) rfl
theorem mw_1342 : (Jvm.Cond.instanceMethod ({ cls := "ScaleShopModel", name := "corner", desc := "(III)I" } : Jvm.MethodName)) ∈ ws0 := zm (tb_6 (x16 (x16 (x1 (x1 (x1 (x1 (x1 (x1 (x1 (x1 (x1 (x1 (x1 (x1 (xh)))))))))))))))) rfl
theorem mw_1343 : (Jvm.Cond.selects "ScaleShopModel" ({ cls := "ScaleShopModel", name := "corner", desc := "(III)I" } : Jvm.MethodName) ({ cls := "ScaleShopModel", name := "corner", desc := "(III)I" } : Jvm.MethodName)) ∈ ws0 := zm (tb_6 (x16 (x16 (x1 (x1 (x1 (x1 (x1 (x1 (x1 (x1 (x1 (x1 (x1 (x1 (x1 (xh))))))))))))))))) rfl
theorem mc_yX11_corner : (Cond.code yX11_corner cX11_corner 4 (some .int)) ∈ ws0 := zm (tb_6 (x16 (x16 (x1 (x1 (x1 (x1 (x1 (x1 (x1 (x1 (x1 (x1 (x1 (x1 (x1 (x1 (xh)))))))))))))))))) rfl
theorem mw_1345 : (Jvm.Cond.methodLink "ScaleShopModel" (133 : Nat) ({ cls := "ScaleShopModel", name := "isFeature", desc := "(I)Z" } : Jvm.MethodName)) ∈ ws0 := zm (tb_6 (x16 (x16 (x1 (x1 (x1 (x1 (x1 (x1 (x1 (x1 (x1 (x1 (x1 (x1 (x1 (x1 (x1 (xh))))))))))))))))))) rfl
theorem mw_1347 : (Jvm.Cond.instanceMethod ({ cls := "ScaleShopModel", name := "isFeature", desc := "(I)Z" } : Jvm.MethodName)) ∈ ws0 := zm (tb_6 (x16 (x16 (x16 (x1 (xh)))))) rfl
theorem mc_yX11_isFeature : (Cond.code yX11_isFeature cX11_isFeature 2 (some .boolean)) ∈ ws0 := zm (tb_6 (x16 (x16 (x16 (x1 (x1 (xh))))))) rfl
theorem mw_1349 : (Jvm.Cond.methodLink "ScaleShopLaw" (27 : Nat) ({ cls := "ScaleShopModel", name := "tear", desc := "(I)Z" } : Jvm.MethodName)) ∈ ws0 := zm (tb_6 (x16 (x16 (x16 (x1 (x1 (x1 (xh)))))))) rfl
theorem mw_1350 : (Jvm.Cond.instanceMethod ({ cls := "ScaleShopModel", name := "tear", desc := "(I)Z" } : Jvm.MethodName)) ∈ ws0 := zm (tb_6 (x16 (x16 (x16 (x1 (x1 (x1 (x1 (xh))))))))) rfl
theorem mw_1351 : (Jvm.Cond.selects "ScaleShopModel" ({ cls := "ScaleShopModel", name := "tear", desc := "(I)Z" } : Jvm.MethodName) ({ cls := "ScaleShopModel", name := "tear", desc := "(I)Z" } : Jvm.MethodName)) ∈ ws0 := zm (tb_6 (x16 (x16 (x16 (x1 (x1 (x1 (x1 (x1 (xh)))))))))) rfl
theorem mc_yX11_tear : (Cond.code yX11_tear cX11_tear 2 (some .boolean)) ∈ ws0 := zm (tb_6 (x16 (x16 (x16 (x1 (x1 (x1 (x1 (x1 (x1 (xh))))))))))) rfl
theorem mw_1353 : (Jvm.Cond.methodLink "ScaleShopModel" (276 : Nat) ({ cls := "ScaleShopModel", name := "no", desc := "(I)Z" } : Jvm.MethodName)) ∈ ws0 := zm (tb_6 (x16 (x16 (x16 (x1 (x1 (x1 (x1 (x1 (x1 (x1 (xh)))))))))))) rfl
theorem mw_1355 : (Jvm.Cond.instanceMethod ({ cls := "ScaleShopModel", name := "no", desc := "(I)Z" } : Jvm.MethodName)) ∈ ws0 := zm (tb_6 (x16 (x16 (x16 (x1 (x1 (x1 (x1 (x1 (x1 (x1 (x1 (x1 (xh)))))))))))))) rfl
theorem mc_yX11_no : (Cond.code yX11_no cX11_no 2 (some .boolean)) ∈ ws0 := zm (tb_6 (x16 (x16 (x16 (x1 (x1 (x1 (x1 (x1 (x1 (x1 (x1 (x1 (x1 (xh))))))))))))))) rfl
theorem mw_1357 : (Jvm.Cond.methodLink "ScaleShopLaw" (31 : Nat) ({ cls := "ScaleShopModel", name := "done", desc := "(I)Z" } : Jvm.MethodName)) ∈ ws0 := zm (tb_6 (x16 (x16 (x16 (x1 (x1 (x1 (x1 (x1 (x1 (x1 (x1 (x1 (x1 (x1 (xh)))))))))))))))) rfl
theorem mw_1358 : (Jvm.Cond.instanceMethod ({ cls := "ScaleShopModel", name := "done", desc := "(I)Z" } : Jvm.MethodName)) ∈ ws0 := zm (tb_6 (x16 (x16 (x16 (x1 (x1 (x1 (x1 (x1 (x1 (x1 (x1 (x1 (x1 (x1 (x1 (xh))))))))))))))))) rfl
theorem mw_1359 : (Jvm.Cond.selects "ScaleShopModel" ({ cls := "ScaleShopModel", name := "done", desc := "(I)Z" } : Jvm.MethodName) ({ cls := "ScaleShopModel", name := "done", desc := "(I)Z" } : Jvm.MethodName)) ∈ ws0 := zm (tb_6 (x16 (x16 (x16 (x1 (x1 (x1 (x1 (x1 (x1 (x1 (x1 (x1 (x1 (x1 (x1 (x1 (xh)))))))))))))))))) rfl
theorem mc_yX11_done : (Cond.code yX11_done cX11_done 2 (some .boolean)) ∈ ws0 := zm (tb_6 (x16 (x16 (x16 (x1 (x1 (x1 (x1 (x1 (x1 (x1 (x1 (x1 (x1 (x1 (x1 (x1 (x1 (xh))))))))))))))))))) rfl
theorem mw_1361 : (Jvm.Cond.methodLink "ScaleShopModel" (210 : Nat) ({ cls := "ScaleShopModel", name := "isSimple", desc := "(I)Z" } : Jvm.MethodName)) ∈ ws0 := zm (tb_6 (x16 (x16 (x16 (x1 (x1 (x1 (x1 (x1 (x1 (x1 (x1 (x1 (x1 (x1 (x1 (x1 (x1 (x1 (xh)))))))))))))))))))) rfl
theorem mw_1363 : (Jvm.Cond.instanceMethod ({ cls := "ScaleShopModel", name := "isSimple", desc := "(I)Z" } : Jvm.MethodName)) ∈ ws0 := zm (tb_6 (x16 (x16 (x16 (x16 (x1 (xh))))))) rfl
theorem mc_yX11_isSimple : (Cond.code yX11_isSimple cX11_isSimple 8 (some .boolean)) ∈ ws0 := zm (tb_6 (x16 (x16 (x16 (x16 (x1 (x1 (xh)))))))) rfl
theorem mw_1365 : (Jvm.Cond.methodLink "ScaleShopModel" (161 : Nat) ({ cls := "ScaleShopModel", name := "isRing", desc := "(I)Z" } : Jvm.MethodName)) ∈ ws0 := zm (tb_6 (x16 (x16 (x16 (x16 (x1 (x1 (x1 (xh))))))))) rfl
theorem mw_1367 : (Jvm.Cond.instanceMethod ({ cls := "ScaleShopModel", name := "isRing", desc := "(I)Z" } : Jvm.MethodName)) ∈ ws0 := zm (tb_6 (x16 (x16 (x16 (x16 (x1 (x1 (x1 (x1 (x1 (xh))))))))))) rfl
theorem mc_yX11_isRing : (Cond.code yX11_isRing cX11_isRing 2 (some .boolean)) ∈ ws0 := zm (tb_6 (x16 (x16 (x16 (x16 (x1 (x1 (x1 (x1 (x1 (x1 (xh)))))))))))) rfl
theorem mw_1369 : (Jvm.Cond.methodLink "ScaleShopModel" (164 : Nat) ({ cls := "ScaleShopModel", name := "edgesOf", desc := "(I)I" } : Jvm.MethodName)) ∈ ws0 := zm (tb_6 (x16 (x16 (x16 (x16 (x1 (x1 (x1 (x1 (x1 (x1 (x1 (xh))))))))))))) rfl
theorem mw_1371 : (Jvm.Cond.instanceMethod ({ cls := "ScaleShopModel", name := "edgesOf", desc := "(I)I" } : Jvm.MethodName)) ∈ ws0 := zm (tb_6 (x16 (x16 (x16 (x16 (x1 (x1 (x1 (x1 (x1 (x1 (x1 (x1 (x1 (xh))))))))))))))) rfl
theorem mc_yX11_edgesOf : (Cond.code yX11_edgesOf cX11_edgesOf 2 (some .int)) ∈ ws0 := zm (tb_6 (x16 (x16 (x16 (x16 (x1 (x1 (x1 (x1 (x1 (x1 (x1 (x1 (x1 (x1 (xh)))))))))))))))) rfl
theorem mw_1373 : (Jvm.Cond.methodLink "ScaleShopModel" (167 : Nat) ({ cls := "ScaleShopModel", name := "edge", desc := "(III)V" } : Jvm.MethodName)) ∈ ws0 := zm (tb_6 (x16 (x16 (x16 (x16 (x1 (x1 (x1 (x1 (x1 (x1 (x1 (x1 (x1 (x1 (x1 (xh))))))))))))))))) rfl
theorem mw_1375 : (Jvm.Cond.instanceMethod ({ cls := "ScaleShopModel", name := "edge", desc := "(III)V" } : Jvm.MethodName)) ∈ ws0 := zm (tb_6 (x16 (x16 (x16 (x16 (x1 (x1 (x1 (x1 (x1 (x1 (x1 (x1 (x1 (x1 (x1 (x1 (x1 (xh))))))))))))))))))) rfl
theorem mc_yX11_edge : (Cond.code yX11_edge cX11_edge 6 none) ∈ ws0 := zm (tb_6 (x16 (x16 (x16 (x16 (x1 (x1 (x1 (x1 (x1 (x1 (x1 (x1 (x1 (x1 (x1 (x1 (x1 (x1 (xh)))))))))))))))))))) rfl
theorem mw_1377 : (Jvm.Cond.methodLink "ScaleShopModel" (182 : Nat) ({ cls := "ScaleShopModel", name := "folds", desc := "(III)Z" } : Jvm.MethodName)) ∈ ws0 := zm (tb_6 (x16 (x16 (x16 (x16 (x1 (x1 (x1 (x1 (x1 (x1 (x1 (x1 (x1 (x1 (x1 (x1 (x1 (x1 (x1 (xh))))))))))))))))))))) rfl
theorem mw_1379 : (Jvm.Cond.instanceMethod ({ cls := "ScaleShopModel", name := "folds", desc := "(III)Z" } : Jvm.MethodName)) ∈ ws0 := zm (tb_6 (x16 (x16 (x16 (x16 (x16 (x1 (xh)))))))) rfl
theorem mc_yX11_folds : (Cond.code yX11_folds cX11_folds 6 (some .boolean)) ∈ ws0 := zm (tb_6 (x16 (x16 (x16 (x16 (x16 (x1 (x1 (xh))))))))) rfl
theorem mw_1381 : (Jvm.Cond.methodLink "ScaleShopModel" (140 : Nat) ({ cls := "ScaleShopModel", name := "cross", desc := "(JJJJJJ)J" } : Jvm.MethodName)) ∈ ws0 := zm (tb_6 (x16 (x16 (x16 (x16 (x16 (x1 (x1 (x1 (xh)))))))))) rfl
theorem mw_1382 : (Jvm.Cond.static ({ cls := "ScaleShopModel", name := "cross", desc := "(JJJJJJ)J" } : Jvm.MethodName)) ∈ ws0 := zm (tb_6 (x16 (x16 (x16 (x16 (x16 (x1 (x1 (x1 (x1 (xh))))))))))) rfl
theorem mc_yX11_cross : (Cond.code yX11_cross cX11_cross 12 (some .long)) ∈ ws0 := zm (tb_6 (x16 (x16 (x16 (x16 (x16 (x1 (x1 (x1 (x1 (x1 (xh)))))))))))) rfl
theorem mw_1384 : (Jvm.Cond.methodLink "ScaleShopModel" (185 : Nat) ({ cls := "ScaleShopModel", name := "meetsEdge", desc := "(III)Z" } : Jvm.MethodName)) ∈ ws0 := zm (tb_6 (x16 (x16 (x16 (x16 (x16 (x1 (x1 (x1 (x1 (x1 (x1 (xh))))))))))))) rfl
theorem mw_1386 : (Jvm.Cond.instanceMethod ({ cls := "ScaleShopModel", name := "meetsEdge", desc := "(III)Z" } : Jvm.MethodName)) ∈ ws0 := zm (tb_6 (x16 (x16 (x16 (x16 (x16 (x1 (x1 (x1 (x1 (x1 (x1 (x1 (x1 (xh))))))))))))))) rfl
theorem mc_yX11_meetsEdge : (Cond.code yX11_meetsEdge cX11_meetsEdge 4 (some .boolean)) ∈ ws0 := zm (tb_6 (x16 (x16 (x16 (x16 (x16 (x1 (x1 (x1 (x1 (x1 (x1 (x1 (x1 (x1 (xh)))))))))))))))) rfl
theorem mw_1388 : (Jvm.Cond.methodLink "ScaleShopModel" (171 : Nat) ({ cls := "ScaleShopModel", name := "touch", desc := "([I)Z" } : Jvm.MethodName)) ∈ ws0 := zm (tb_6 (x16 (x16 (x16 (x16 (x16 (x1 (x1 (x1 (x1 (x1 (x1 (x1 (x1 (x1 (x1 (xh))))))))))))))))) rfl
theorem mw_1389 : (Jvm.Cond.static ({ cls := "ScaleShopModel", name := "touch", desc := "([I)Z" } : Jvm.MethodName)) ∈ ws0 := zm (tb_6 (x16 (x16 (x16 (x16 (x16 (x1 (x1 (x1 (x1 (x1 (x1 (x1 (x1 (x1 (x1 (x1 (xh)))))))))))))))))) rfl
theorem mc_yX11_touch : (Cond.code yX11_touch cX11_touch 6 (some .boolean)) ∈ ws0 := zm (tb_6 (x16 (x16 (x16 (x16 (x16 (x1 (x1 (x1 (x1 (x1 (x1 (x1 (x1 (x1 (x1 (x1 (x1 (xh))))))))))))))))))) rfl
theorem mw_1391 : (Jvm.Cond.methodLink "ScaleShopModel" (153 : Nat) ({ cls := "ScaleShopModel", name := "signOf", desc := "(J)I" } : Jvm.MethodName)) ∈ ws0 := zm (tb_6 (x16 (x16 (x16 (x16 (x16 (x1 (x1 (x1 (x1 (x1 (x1 (x1 (x1 (x1 (x1 (x1 (x1 (x1 (xh)))))))))))))))))))) rfl
theorem mw_1392 : (Jvm.Cond.static ({ cls := "ScaleShopModel", name := "signOf", desc := "(J)I" } : Jvm.MethodName)) ∈ ws0 := zm (tb_6 (x16 (x16 (x16 (x16 (x16 (x1 (x1 (x1 (x1 (x1 (x1 (x1 (x1 (x1 (x1 (x1 (x1 (x1 (x1 (xh))))))))))))))))))))) rfl
theorem mc_yX11_signOf : (Cond.code yX11_signOf cX11_signOf 2 (some .int)) ∈ ws0 := zm (tb_6 (x16 (x16 (x16 (x16 (x16 (x1 (x1 (x1 (x1 (x1 (x1 (x1 (x1 (x1 (x1 (x1 (x1 (x1 (x1 (x1 (xh)))))))))))))))))))))) rfl
theorem mw_1394 : (Jvm.Cond.methodLink "ScaleShopModel" (157 : Nat) ({ cls := "ScaleShopModel", name := "isOn", desc := "(IIIIII)Z" } : Jvm.MethodName)) ∈ ws0 := zm (tb_6 (x16 (x16 (x16 (x16 (x16 (x16 (xh)))))))) rfl
theorem mw_1395 : (Jvm.Cond.static ({ cls := "ScaleShopModel", name := "isOn", desc := "(IIIIII)Z" } : Jvm.MethodName)) ∈ ws0 := zm (tb_6 (x16 (x16 (x16 (x16 (x16 (x16 (x1 (xh))))))))) rfl
theorem mc_yX11_isOn : (Cond.code yX11_isOn cX11_isOn 6 (some .boolean)) ∈ ws0 := zm (tb_6 (x16 (x16 (x16 (x16 (x16 (x16 (x1 (x1 (xh)))))))))) rfl
theorem mw_1397 : (Jvm.Cond.methodLink "ScaleShopModel" (144 : Nat) ({ cls := "java/lang/Math", name := "min", desc := "(II)I" } : Jvm.MethodName)) ∈ ws0 := zm (tb_6 (x16 (x16 (x16 (x16 (x16 (x16 (x1 (x1 (x1 (xh))))))))))) rfl
theorem mw_1398 : (Jvm.Cond.methodLink "ScaleShopModel" (150 : Nat) ({ cls := "java/lang/Math", name := "max", desc := "(II)I" } : Jvm.MethodName)) ∈ ws0 := zm (tb_6 (x16 (x16 (x16 (x16 (x16 (x16 (x1 (x1 (x1 (x1 (xh)))))))))))) rfl
theorem mw_1399 : (Jvm.Cond.methodLink "ScaleShopModel" (188 : Nat) ({ cls := "ScaleShopModel", name := "isSquare", desc := "(I)Z" } : Jvm.MethodName)) ∈ ws0 := zm (tb_6 (x16 (x16 (x16 (x16 (x16 (x16 (x1 (x1 (x1 (x1 (x1 (xh))))))))))))) rfl
theorem mw_1401 : (Jvm.Cond.instanceMethod ({ cls := "ScaleShopModel", name := "isSquare", desc := "(I)Z" } : Jvm.MethodName)) ∈ ws0 := zm (tb_6 (x16 (x16 (x16 (x16 (x16 (x16 (x1 (x1 (x1 (x1 (x1 (x1 (x1 (xh))))))))))))))) rfl
theorem mc_yX11_isSquare : (Cond.code yX11_isSquare cX11_isSquare 3 (some .boolean)) ∈ ws0 := zm (tb_6 (x16 (x16 (x16 (x16 (x16 (x16 (x1 (x1 (x1 (x1 (x1 (x1 (x1 (x1 (xh)))))))))))))))) rfl
theorem mw_1403 : (Jvm.Cond.methodLink "ScaleShopLaw" (36 : Nat) ({ cls := "ScaleShopModel", name := "plainer", desc := "(II)I" } : Jvm.MethodName)) ∈ ws0 := zm (tb_6 (x16 (x16 (x16 (x16 (x16 (x16 (x1 (x1 (x1 (x1 (x1 (x1 (x1 (x1 (x1 (xh))))))))))))))))) rfl
theorem mw_1404 : (Jvm.Cond.instanceMethod ({ cls := "ScaleShopModel", name := "plainer", desc := "(II)I" } : Jvm.MethodName)) ∈ ws0 := zm (tb_6 (x16 (x16 (x16 (x16 (x16 (x16 (x1 (x1 (x1 (x1 (x1 (x1 (x1 (x1 (x1 (x1 (xh)))))))))))))))))) rfl
theorem mw_1405 : (Jvm.Cond.selects "ScaleShopModel" ({ cls := "ScaleShopModel", name := "plainer", desc := "(II)I" } : Jvm.MethodName) ({ cls := "ScaleShopModel", name := "plainer", desc := "(II)I" } : Jvm.MethodName)) ∈ ws0 := zm (tb_6 (x16 (x16 (x16 (x16 (x16 (x16 (x1 (x1 (x1 (x1 (x1 (x1 (x1 (x1 (x1 (x1 (x1 (xh))))))))))))))))))) rfl
theorem mc_yX11_plainer : (Cond.code yX11_plainer cX11_plainer 4 (some .int)) ∈ ws0 := zm (tb_6 (x16 (x16 (x16 (x16 (x16 (x16 (x1 (x1 (x1 (x1 (x1 (x1 (x1 (x1 (x1 (x1 (x1 (x1 (xh)))))))))))))))))))) rfl
theorem mw_1407 : (Jvm.Cond.methodLink "ScaleShopModel" (312 : Nat) ({ cls := "ScaleShopModel", name := "wrong", desc := "(I)I" } : Jvm.MethodName)) ∈ ws0 := zm (tb_6 (x16 (x16 (x16 (x16 (x16 (x16 (x1 (x1 (x1 (x1 (x1 (x1 (x1 (x1 (x1 (x1 (x1 (x1 (x1 (xh))))))))))))))))))))) rfl
theorem mw_1409 : (Jvm.Cond.instanceMethod ({ cls := "ScaleShopModel", name := "wrong", desc := "(I)I" } : Jvm.MethodName)) ∈ ws0 := zm (tb_6 (x16 (x16 (x16 (x16 (x16 (x16 (x1 (x1 (x1 (x1 (x1 (x1 (x1 (x1 (x1 (x1 (x1 (x1 (x1 (x1 (x1 (xh))))))))))))))))))))))) rfl
theorem mc_yX11_wrong : (Cond.code yX11_wrong cX11_wrong 2 (some .int)) ∈ ws0 := zm (tb_6 (x16 (x16 (x16 (x16 (x16 (x16 (x16 (xh))))))))) rfl
theorem mw_1411 : (Jvm.Cond.methodLink "ScaleShopModel" (315 : Nat) ({ cls := "ScaleShopModel", name := "isPlainable", desc := "(I)Z" } : Jvm.MethodName)) ∈ ws0 := zm (tb_6 (x16 (x16 (x16 (x16 (x16 (x16 (x16 (x1 (xh)))))))))) rfl
theorem mw_1413 : (Jvm.Cond.instanceMethod ({ cls := "ScaleShopModel", name := "isPlainable", desc := "(I)Z" } : Jvm.MethodName)) ∈ ws0 := zm (tb_6 (x16 (x16 (x16 (x16 (x16 (x16 (x16 (x1 (x1 (x1 (xh)))))))))))) rfl
theorem mc_yX11_isPlainable : (Cond.code yX11_isPlainable cX11_isPlainable 2 (some .boolean)) ∈ ws0 := zm (tb_6 (x16 (x16 (x16 (x16 (x16 (x16 (x16 (x1 (x1 (x1 (x1 (xh))))))))))))) rfl
theorem mw_1415 : (Jvm.Cond.methodLink "ScaleShopModel" (318 : Nat) ({ cls := "ScaleShopModel", name := "tell", desc := "(III)I" } : Jvm.MethodName)) ∈ ws0 := zm (tb_6 (x16 (x16 (x16 (x16 (x16 (x16 (x16 (x1 (x1 (x1 (x1 (x1 (xh)))))))))))))) rfl
theorem mw_1417 : (Jvm.Cond.instanceMethod ({ cls := "ScaleShopModel", name := "tell", desc := "(III)I" } : Jvm.MethodName)) ∈ ws0 := zm (tb_6 (x16 (x16 (x16 (x16 (x16 (x16 (x16 (x1 (x1 (x1 (x1 (x1 (x1 (x1 (xh)))))))))))))))) rfl
theorem mc_yX11_tell : (Cond.code yX11_tell cX11_tell 9 (some .int)) ∈ ws0 := zm (tb_6 (x16 (x16 (x16 (x16 (x16 (x16 (x16 (x1 (x1 (x1 (x1 (x1 (x1 (x1 (x1 (xh))))))))))))))))) rfl
theorem mw_1419 : (Jvm.Cond.methodLink "ScaleShopModel" (322 : Nat) ({ cls := "ScaleShopModel", name := "begins", desc := "()V" } : Jvm.MethodName)) ∈ ws0 := zm (tb_6 (x16 (x16 (x16 (x16 (x16 (x16 (x16 (x1 (x1 (x1 (x1 (x1 (x1 (x1 (x1 (x1 (xh)))))))))))))))))) rfl
theorem mw_1421 : (Jvm.Cond.instanceMethod ({ cls := "ScaleShopModel", name := "begins", desc := "()V" } : Jvm.MethodName)) ∈ ws0 := zm (tb_6 (x16 (x16 (x16 (x16 (x16 (x16 (x16 (x1 (x1 (x1 (x1 (x1 (x1 (x1 (x1 (x1 (x1 (x1 (xh)))))))))))))))))))) rfl
theorem mc_yX11_begins : (Cond.code yX11_begins cX11_begins 1 none) ∈ ws0 := zm (tb_6 (x16 (x16 (x16 (x16 (x16 (x16 (x16 (x1 (x1 (x1 (x1 (x1 (x1 (x1 (x1 (x1 (x1 (x1 (x1 (xh))))))))))))))))))))) rfl
theorem mw_1423 : (Jvm.Cond.methodLink "ScaleShopModel" (266 : Nat) ({ cls := "ScaleShopModel", name := "keep", desc := "(I)V" } : Jvm.MethodName)) ∈ ws0 := zm (tb_6 (x16 (x16 (x16 (x16 (x16 (x16 (x16 (x1 (x1 (x1 (x1 (x1 (x1 (x1 (x1 (x1 (x1 (x1 (x1 (x1 (xh)))))))))))))))))))))) rfl
theorem mw_1425 : (Jvm.Cond.instanceMethod ({ cls := "ScaleShopModel", name := "keep", desc := "(I)V" } : Jvm.MethodName)) ∈ ws0 := zm (tb_6 (x16 (x16 (x16 (x16 (x16 (x16 (x16 (x1 (x1 (x1 (x1 (x1 (x1 (x1 (x1 (x1 (x1 (x1 (x1 (x1 (x1 (x1 (xh)))))))))))))))))))))))) rfl
theorem mc_yX11_keep : (Cond.code yX11_keep cX11_keep 5 none) ∈ ws0 := zm (tb_6 (x16 (x16 (x16 (x16 (x16 (x16 (x16 (x16 (xh)))))))))) rfl
theorem mw_1427 : (Jvm.Cond.methodLink "ScaleShopModel" (247 : Nat) ({ cls := "ScaleShopModel", name := "write", desc := "(I)V" } : Jvm.MethodName)) ∈ ws0 := zm (tb_6 (x16 (x16 (x16 (x16 (x16 (x16 (x16 (x16 (x1 (xh))))))))))) rfl
theorem mw_1429 : (Jvm.Cond.instanceMethod ({ cls := "ScaleShopModel", name := "write", desc := "(I)V" } : Jvm.MethodName)) ∈ ws0 := zm (tb_6 (x16 (x16 (x16 (x16 (x16 (x16 (x16 (x16 (x1 (x1 (x1 (xh))))))))))))) rfl
theorem mc_yX11_write : (Cond.code yX11_write cX11_write 4 none) ∈ ws0 := zm (tb_6 (x16 (x16 (x16 (x16 (x16 (x16 (x16 (x16 (x1 (x1 (x1 (x1 (xh)))))))))))))) rfl
theorem mw_1431 : (Jvm.Cond.methodLink "ScaleShopModel" (325 : Nat) ({ cls := "ScaleShopModel", name := "plainAll", desc := "(III)I" } : Jvm.MethodName)) ∈ ws0 := zm (tb_6 (x16 (x16 (x16 (x16 (x16 (x16 (x16 (x16 (x1 (x1 (x1 (x1 (x1 (xh))))))))))))))) rfl
theorem mw_1433 : (Jvm.Cond.instanceMethod ({ cls := "ScaleShopModel", name := "plainAll", desc := "(III)I" } : Jvm.MethodName)) ∈ ws0 := zm (tb_6 (x16 (x16 (x16 (x16 (x16 (x16 (x16 (x16 (x1 (x1 (x1 (x1 (x1 (x1 (x1 (xh))))))))))))))))) rfl
theorem mc_yX11_plainAll : (Cond.code yX11_plainAll cX11_plainAll 5 (some .int)) ∈ ws0 := zm (tb_6 (x16 (x16 (x16 (x16 (x16 (x16 (x16 (x16 (x1 (x1 (x1 (x1 (x1 (x1 (x1 (x1 (xh)))))))))))))))))) rfl
theorem mw_1435 : (Jvm.Cond.methodLink "ScaleShopModel" (308 : Nat) ({ cls := "ScaleShopModel", name := "plain", desc := "(IJI)Z" } : Jvm.MethodName)) ∈ ws0 := zm (tb_6 (x16 (x16 (x16 (x16 (x16 (x16 (x16 (x16 (x1 (x1 (x1 (x1 (x1 (x1 (x1 (x1 (x1 (xh))))))))))))))))))) rfl
theorem mw_1437 : (Jvm.Cond.instanceMethod ({ cls := "ScaleShopModel", name := "plain", desc := "(IJI)Z" } : Jvm.MethodName)) ∈ ws0 := zm (tb_6 (x16 (x16 (x16 (x16 (x16 (x16 (x16 (x16 (x1 (x1 (x1 (x1 (x1 (x1 (x1 (x1 (x1 (x1 (x1 (xh))))))))))))))))))))) rfl
theorem mc_yX11_plain : (Cond.code yX11_plain cX11_plain 8 (some .boolean)) ∈ ws0 := zm (tb_6 (x16 (x16 (x16 (x16 (x16 (x16 (x16 (x16 (x1 (x1 (x1 (x1 (x1 (x1 (x1 (x1 (x1 (x1 (x1 (x1 (xh)))))))))))))))))))))) rfl
theorem mw_1439 : (Jvm.Cond.methodLink "ScaleShopModel" (294 : Nat) ({ cls := "ScaleShopModel", name := "mayGo", desc := "(II)Z" } : Jvm.MethodName)) ∈ ws0 := zm (tb_6 (x16 (x16 (x16 (x16 (x16 (x16 (x16 (x16 (x1 (x1 (x1 (x1 (x1 (x1 (x1 (x1 (x1 (x1 (x1 (x1 (x1 (xh))))))))))))))))))))))) rfl
theorem mw_1441 : (Jvm.Cond.instanceMethod ({ cls := "ScaleShopModel", name := "mayGo", desc := "(II)Z" } : Jvm.MethodName)) ∈ ws0 := zm (tb_6 (x16 (x16 (x16 (x16 (x16 (x16 (x16 (x16 (x1 (x1 (x1 (x1 (x1 (x1 (x1 (x1 (x1 (x1 (x1 (x1 (x1 (x1 (x1 (xh))))))))))))))))))))))))) rfl
theorem mc_yX11_mayGo : (Cond.code yX11_mayGo cX11_mayGo 3 (some .boolean)) ∈ ws0 := zm (tb_6 (x16 (x16 (x16 (x16 (x16 (x16 (x16 (x16 (x16 (xh))))))))))) rfl
theorem mw_1443 : (Jvm.Cond.methodLink "ScaleShopModel" (282 : Nat) ({ cls := "ScaleShopModel", name := "isHeld", desc := "(III)Z" } : Jvm.MethodName)) ∈ ws0 := zm (tb_6 (x16 (x16 (x16 (x16 (x16 (x16 (x16 (x16 (x16 (x1 (xh)))))))))))) rfl
theorem mw_1445 : (Jvm.Cond.instanceMethod ({ cls := "ScaleShopModel", name := "isHeld", desc := "(III)Z" } : Jvm.MethodName)) ∈ ws0 := zm (tb_6 (x16 (x16 (x16 (x16 (x16 (x16 (x16 (x16 (x16 (x1 (x1 (x1 (xh)))))))))))))) rfl
theorem mc_yX11_isHeld : (Cond.code yX11_isHeld cX11_isHeld 5 (some .boolean)) ∈ ws0 := zm (tb_6 (x16 (x16 (x16 (x16 (x16 (x16 (x16 (x16 (x16 (x1 (x1 (x1 (x1 (xh))))))))))))))) rfl
theorem mw_1447 : (Jvm.Cond.methodLink "ScaleShopModel" (197 : Nat) ({ cls := "ScaleShopModel", name := "is", desc := "(I)Z" } : Jvm.MethodName)) ∈ ws0 := zm (tb_6 (x16 (x16 (x16 (x16 (x16 (x16 (x16 (x16 (x16 (x1 (x1 (x1 (x1 (x1 (xh)))))))))))))))) rfl
theorem mw_1449 : (Jvm.Cond.instanceMethod ({ cls := "ScaleShopModel", name := "is", desc := "(I)Z" } : Jvm.MethodName)) ∈ ws0 := zm (tb_6 (x16 (x16 (x16 (x16 (x16 (x16 (x16 (x16 (x16 (x1 (x1 (x1 (x1 (x1 (x1 (x1 (xh)))))))))))))))))) rfl
theorem mc_yX11_is : (Cond.code yX11_is cX11_is 2 (some .boolean)) ∈ ws0 := zm (tb_6 (x16 (x16 (x16 (x16 (x16 (x16 (x16 (x16 (x16 (x1 (x1 (x1 (x1 (x1 (x1 (x1 (x1 (xh))))))))))))))))))) rfl
theorem mw_1451 : (Jvm.Cond.methodLink "ScaleShopModel" (175 : Nat) ({ cls := "ScaleShopModel", name := "isOnSet", desc := "(III)Z" } : Jvm.MethodName)) ∈ ws0 := zm (tb_6 (x16 (x16 (x16 (x16 (x16 (x16 (x16 (x16 (x16 (x1 (x1 (x1 (x1 (x1 (x1 (x1 (x1 (x1 (xh)))))))))))))))))))) rfl
theorem mw_1453 : (Jvm.Cond.instanceMethod ({ cls := "ScaleShopModel", name := "isOnSet", desc := "(III)Z" } : Jvm.MethodName)) ∈ ws0 := zm (tb_6 (x16 (x16 (x16 (x16 (x16 (x16 (x16 (x16 (x16 (x1 (x1 (x1 (x1 (x1 (x1 (x1 (x1 (x1 (x1 (x1 (xh)))))))))))))))))))))) rfl
theorem mc_yX11_isOnSet : (Cond.code yX11_isOnSet cX11_isOnSet 5 (some .boolean)) ∈ ws0 := zm (tb_6 (x16 (x16 (x16 (x16 (x16 (x16 (x16 (x16 (x16 (x1 (x1 (x1 (x1 (x1 (x1 (x1 (x1 (x1 (x1 (x1 (x1 (xh))))))))))))))))))))))) rfl
theorem mw_1455 : (Jvm.Cond.methodLink "ScaleShopModel" (297 : Nat) ({ cls := "ScaleShopModel", name := "triangle", desc := "(II)J" } : Jvm.MethodName)) ∈ ws0 := zm (tb_6 (x16 (x16 (x16 (x16 (x16 (x16 (x16 (x16 (x16 (x1 (x1 (x1 (x1 (x1 (x1 (x1 (x1 (x1 (x1 (x1 (x1 (x1 (xh)))))))))))))))))))))))) rfl
theorem mw_1457 : (Jvm.Cond.instanceMethod ({ cls := "ScaleShopModel", name := "triangle", desc := "(II)J" } : Jvm.MethodName)) ∈ ws0 := zm (tb_6 (x16 (x16 (x16 (x16 (x16 (x16 (x16 (x16 (x16 (x1 (x1 (x1 (x1 (x1 (x1 (x1 (x1 (x1 (x1 (x1 (x1 (x1 (x1 (x1 (xh)))))))))))))))))))))))))) rfl
theorem mc_yX11_triangle : (Cond.code yX11_triangle cX11_triangle 9 (some .long)) ∈ ws0 := zm (tb_6 (x16 (x16 (x16 (x16 (x16 (x16 (x16 (x16 (x16 (x16 (xh)))))))))))) rfl
theorem mw_1459 : (Jvm.Cond.methodLink "ScaleShopModel" (301 : Nat) ({ cls := "ScaleShopModel", name := "goes", desc := "(II)Z" } : Jvm.MethodName)) ∈ ws0 := zm (tb_6 (x16 (x16 (x16 (x16 (x16 (x16 (x16 (x16 (x16 (x16 (x1 (xh))))))))))))) rfl
theorem mw_1461 : (Jvm.Cond.instanceMethod ({ cls := "ScaleShopModel", name := "goes", desc := "(II)Z" } : Jvm.MethodName)) ∈ ws0 := zm (tb_6 (x16 (x16 (x16 (x16 (x16 (x16 (x16 (x16 (x16 (x16 (x1 (x1 (x1 (xh))))))))))))))) rfl
theorem mc_yX11_goes : (Cond.code yX11_goes cX11_goes 4 (some .boolean)) ∈ ws0 := zm (tb_6 (x16 (x16 (x16 (x16 (x16 (x16 (x16 (x16 (x16 (x16 (x1 (x1 (x1 (x1 (xh)))))))))))))))) rfl
theorem mw_1463 : (Jvm.Cond.methodLink "ScaleShopModel" (285 : Nat) ({ cls := "ScaleShopModel", name := "remember", desc := "(I)V" } : Jvm.MethodName)) ∈ ws0 := zm (tb_6 (x16 (x16 (x16 (x16 (x16 (x16 (x16 (x16 (x16 (x16 (x1 (x1 (x1 (x1 (x1 (xh))))))))))))))))) rfl
theorem mw_1465 : (Jvm.Cond.instanceMethod ({ cls := "ScaleShopModel", name := "remember", desc := "(I)V" } : Jvm.MethodName)) ∈ ws0 := zm (tb_6 (x16 (x16 (x16 (x16 (x16 (x16 (x16 (x16 (x16 (x16 (x1 (x1 (x1 (x1 (x1 (x1 (x1 (xh))))))))))))))))))) rfl
theorem mc_yX11_remember : (Cond.code yX11_remember cX11_remember 4 none) ∈ ws0 := zm (tb_6 (x16 (x16 (x16 (x16 (x16 (x16 (x16 (x16 (x16 (x16 (x1 (x1 (x1 (x1 (x1 (x1 (x1 (x1 (xh)))))))))))))))))))) rfl
theorem mw_1467 : (Jvm.Cond.methodLink "ScaleShopModel" (200 : Nat) ({ cls := "ScaleShopModel", name := "isMet", desc := "(II)Z" } : Jvm.MethodName)) ∈ ws0 := zm (tb_6 (x16 (x16 (x16 (x16 (x16 (x16 (x16 (x16 (x16 (x16 (x1 (x1 (x1 (x1 (x1 (x1 (x1 (x1 (x1 (xh))))))))))))))))))))) rfl
theorem mw_1469 : (Jvm.Cond.instanceMethod ({ cls := "ScaleShopModel", name := "isMet", desc := "(II)Z" } : Jvm.MethodName)) ∈ ws0 := zm (tb_6 (x16 (x16 (x16 (x16 (x16 (x16 (x16 (x16 (x16 (x16 (x1 (x1 (x1 (x1 (x1 (x1 (x1 (x1 (x1 (x1 (x1 (xh))))))))))))))))))))))) rfl
theorem mc_yX11_isMet : (Cond.code yX11_isMet cX11_isMet 5 (some .boolean)) ∈ ws0 := zm (tb_6 (x16 (x16 (x16 (x16 (x16 (x16 (x16 (x16 (x16 (x16 (x1 (x1 (x1 (x1 (x1 (x1 (x1 (x1 (x1 (x1 (x1 (x1 (xh)))))))))))))))))))))))) rfl
theorem mw_1471 : (Jvm.Cond.methodLink "ScaleShopModel" (204 : Nat) ({ cls := "ScaleShopModel", name := "isInside", desc := "(III)Z" } : Jvm.MethodName)) ∈ ws0 := zm (tb_6 (x16 (x16 (x16 (x16 (x16 (x16 (x16 (x16 (x16 (x16 (x1 (x1 (x1 (x1 (x1 (x1 (x1 (x1 (x1 (x1 (x1 (x1 (x1 (xh))))))))))))))))))))))))) rfl
theorem mw_1473 : (Jvm.Cond.instanceMethod ({ cls := "ScaleShopModel", name := "isInside", desc := "(III)Z" } : Jvm.MethodName)) ∈ ws0 := zm (tb_6 (x16 (x16 (x16 (x16 (x16 (x16 (x16 (x16 (x16 (x16 (x1 (x1 (x1 (x1 (x1 (x1 (x1 (x1 (x1 (x1 (x1 (x1 (x1 (x1 (x1 (xh))))))))))))))))))))))))))) rfl
theorem mc_yX11_isInside : (Cond.code yX11_isInside cX11_isInside 8 (some .boolean)) ∈ ws0 := zm (tb_6 (x16 (x16 (x16 (x16 (x16 (x16 (x16 (x16 (x16 (x16 (x16 (xh))))))))))))) rfl
theorem mw_1475 : (Jvm.Cond.methodLink "ScaleShopModel" (288 : Nat) ({ cls := "ScaleShopModel", name := "isLawful", desc := "(III)Z" } : Jvm.MethodName)) ∈ ws0 := zm (tb_6 (x16 (x16 (x16 (x16 (x16 (x16 (x16 (x16 (x16 (x16 (x16 (x1 (xh)))))))))))))) rfl
theorem mw_1477 : (Jvm.Cond.instanceMethod ({ cls := "ScaleShopModel", name := "isLawful", desc := "(III)Z" } : Jvm.MethodName)) ∈ ws0 := zm (tb_6 (x16 (x16 (x16 (x16 (x16 (x16 (x16 (x16 (x16 (x16 (x16 (x1 (x1 (x1 (xh)))))))))))))))) rfl
theorem mc_yX11_isLawful : (Cond.code yX11_isLawful cX11_isLawful 5 (some .boolean)) ∈ ws0 := zm (tb_6 (x16 (x16 (x16 (x16 (x16 (x16 (x16 (x16 (x16 (x16 (x16 (x1 (x1 (x1 (x1 (xh))))))))))))))))) rfl
theorem mw_1479 : (Jvm.Cond.methodLink "ScaleShopModel" (207 : Nat) ({ cls := "ScaleShopModel", name := "arePlaces", desc := "(I)Z" } : Jvm.MethodName)) ∈ ws0 := zm (tb_6 (x16 (x16 (x16 (x16 (x16 (x16 (x16 (x16 (x16 (x16 (x16 (x1 (x1 (x1 (x1 (x1 (xh)))))))))))))))))) rfl
theorem mw_1481 : (Jvm.Cond.instanceMethod ({ cls := "ScaleShopModel", name := "arePlaces", desc := "(I)Z" } : Jvm.MethodName)) ∈ ws0 := zm (tb_6 (x16 (x16 (x16 (x16 (x16 (x16 (x16 (x16 (x16 (x16 (x16 (x1 (x1 (x1 (x1 (x1 (x1 (x1 (xh)))))))))))))))))))) rfl
theorem mc_yX11_arePlaces : (Cond.code yX11_arePlaces cX11_arePlaces 5 (some .boolean)) ∈ ws0 := zm (tb_6 (x16 (x16 (x16 (x16 (x16 (x16 (x16 (x16 (x16 (x16 (x16 (x1 (x1 (x1 (x1 (x1 (x1 (x1 (x1 (xh))))))))))))))))))))) rfl
theorem mw_1483 : (Jvm.Cond.methodLink "ScaleShopModel" (213 : Nat) ({ cls := "ScaleShopModel", name := "isLawfulTo", desc := "(IIII)Z" } : Jvm.MethodName)) ∈ ws0 := zm (tb_6 (x16 (x16 (x16 (x16 (x16 (x16 (x16 (x16 (x16 (x16 (x16 (x1 (x1 (x1 (x1 (x1 (x1 (x1 (x1 (x1 (xh)))))))))))))))))))))) rfl
theorem mw_1485 : (Jvm.Cond.instanceMethod ({ cls := "ScaleShopModel", name := "isLawfulTo", desc := "(IIII)Z" } : Jvm.MethodName)) ∈ ws0 := zm (tb_6 (x16 (x16 (x16 (x16 (x16 (x16 (x16 (x16 (x16 (x16 (x16 (x1 (x1 (x1 (x1 (x1 (x1 (x1 (x1 (x1 (x1 (x1 (xh)))))))))))))))))))))))) rfl
theorem mc_yX11_isLawfulTo : (Cond.code yX11_isLawfulTo cX11_isLawfulTo 8 (some .boolean)) ∈ ws0 := zm (tb_6 (x16 (x16 (x16 (x16 (x16 (x16 (x16 (x16 (x16 (x16 (x16 (x1 (x1 (x1 (x1 (x1 (x1 (x1 (x1 (x1 (x1 (x1 (x1 (xh))))))))))))))))))))))))) rfl
theorem mw_1487 : (Jvm.Cond.methodLink "ScaleShopModel" (217 : Nat) ({ cls := "ScaleShopModel", name := "isSweptBy", desc := "(III)Z" } : Jvm.MethodName)) ∈ ws0 := zm (tb_6 (x16 (x16 (x16 (x16 (x16 (x16 (x16 (x16 (x16 (x16 (x16 (x1 (x1 (x1 (x1 (x1 (x1 (x1 (x1 (x1 (x1 (x1 (x1 (x1 (xh)))))))))))))))))))))))))) rfl
theorem mw_1489 : (Jvm.Cond.instanceMethod ({ cls := "ScaleShopModel", name := "isSweptBy", desc := "(III)Z" } : Jvm.MethodName)) ∈ ws0 := zm (tb_6 (x16 (x16 (x16 (x16 (x16 (x16 (x16 (x16 (x16 (x16 (x16 (x1 (x1 (x1 (x1 (x1 (x1 (x1 (x1 (x1 (x1 (x1 (x1 (x1 (x1 (x1 (xh)))))))))))))))))))))))))))) rfl
theorem mc_yX11_isSweptBy : (Cond.code yX11_isSweptBy cX11_isSweptBy 6 (some .boolean)) ∈ ws0 := zm (tb_6 (x16 (x16 (x16 (x16 (x16 (x16 (x16 (x16 (x16 (x16 (x16 (x16 (xh)))))))))))))) rfl
theorem mw_1491 : (Jvm.Cond.methodLink "ScaleShopModel" (226 : Nat) ({ cls := "ScaleShopModel", name := "isWithin", desc := "([III)Z" } : Jvm.MethodName)) ∈ ws0 := zm (tb_6 (x16 (x16 (x16 (x16 (x16 (x16 (x16 (x16 (x16 (x16 (x16 (x16 (x1 (xh))))))))))))))) rfl
theorem mw_1492 : (Jvm.Cond.static ({ cls := "ScaleShopModel", name := "isWithin", desc := "([III)Z" } : Jvm.MethodName)) ∈ ws0 := zm (tb_6 (x16 (x16 (x16 (x16 (x16 (x16 (x16 (x16 (x16 (x16 (x16 (x16 (x1 (x1 (xh)))))))))))))))) rfl
theorem mc_yX11_isWithin : (Cond.code yX11_isWithin cX11_isWithin 6 (some .boolean)) ∈ ws0 := zm (tb_6 (x16 (x16 (x16 (x16 (x16 (x16 (x16 (x16 (x16 (x16 (x16 (x16 (x1 (x1 (x1 (xh))))))))))))))))) rfl
theorem mw_1494 : (Jvm.Cond.methodLink "ScaleShopModel" (220 : Nat) ({ cls := "ScaleShopModel", name := "isSwept", desc := "(III)Z" } : Jvm.MethodName)) ∈ ws0 := zm (tb_6 (x16 (x16 (x16 (x16 (x16 (x16 (x16 (x16 (x16 (x16 (x16 (x16 (x1 (x1 (x1 (x1 (xh)))))))))))))))))) rfl
theorem mw_1496 : (Jvm.Cond.instanceMethod ({ cls := "ScaleShopModel", name := "isSwept", desc := "(III)Z" } : Jvm.MethodName)) ∈ ws0 := zm (tb_6 (x16 (x16 (x16 (x16 (x16 (x16 (x16 (x16 (x16 (x16 (x16 (x16 (x1 (x1 (x1 (x1 (x1 (x1 (xh)))))))))))))))))))) rfl
theorem mc_yX11_isSwept : (Cond.code yX11_isSwept cX11_isSwept 8 (some .boolean)) ∈ ws0 := zm (tb_6 (x16 (x16 (x16 (x16 (x16 (x16 (x16 (x16 (x16 (x16 (x16 (x16 (x1 (x1 (x1 (x1 (x1 (x1 (x1 (xh))))))))))))))))))))) rfl
theorem mw_1498 : (Jvm.Cond.methodLink "ScaleShopModel" (230 : Nat) ({ cls := "ScaleShopModel", name := "take", desc := "(I)V" } : Jvm.MethodName)) ∈ ws0 := zm (tb_6 (x16 (x16 (x16 (x16 (x16 (x16 (x16 (x16 (x16 (x16 (x16 (x16 (x1 (x1 (x1 (x1 (x1 (x1 (x1 (x1 (xh)))))))))))))))))))))) rfl
theorem mw_1500 : (Jvm.Cond.instanceMethod ({ cls := "ScaleShopModel", name := "take", desc := "(I)V" } : Jvm.MethodName)) ∈ ws0 := zm (tb_6 (x16 (x16 (x16 (x16 (x16 (x16 (x16 (x16 (x16 (x16 (x16 (x16 (x1 (x1 (x1 (x1 (x1 (x1 (x1 (x1 (x1 (x1 (xh)))))))))))))))))))))))) rfl
theorem mc_yX11_take : (Cond.code yX11_take cX11_take 3 none) ∈ ws0 := zm (tb_6 (x16 (x16 (x16 (x16 (x16 (x16 (x16 (x16 (x16 (x16 (x16 (x16 (x1 (x1 (x1 (x1 (x1 (x1 (x1 (x1 (x1 (x1 (x1 (xh))))))))))))))))))))))))) rfl
theorem mw_1502 : (Jvm.Cond.methodLink "ScaleShopModel" (234 : Nat) ({ cls := "ScaleShopModel", name := "isThree", desc := "(IIIIIII)Z" } : Jvm.MethodName)) ∈ ws0 := zm (tb_6 (x16 (x16 (x16 (x16 (x16 (x16 (x16 (x16 (x16 (x16 (x16 (x16 (x1 (x1 (x1 (x1 (x1 (x1 (x1 (x1 (x1 (x1 (x1 (x1 (xh)))))))))))))))))))))))))) rfl
theorem mw_1504 : (Jvm.Cond.instanceMethod ({ cls := "ScaleShopModel", name := "isThree", desc := "(IIIIIII)Z" } : Jvm.MethodName)) ∈ ws0 := zm (tb_6 (x16 (x16 (x16 (x16 (x16 (x16 (x16 (x16 (x16 (x16 (x16 (x16 (x1 (x1 (x1 (x1 (x1 (x1 (x1 (x1 (x1 (x1 (x1 (x1 (x1 (x1 (xh)))))))))))))))))))))))))))) rfl
theorem mc_yX11_isThree : (Cond.code yX11_isThree cX11_isThree 8 (some .boolean)) ∈ ws0 := zm (tb_6 (x16 (x16 (x16 (x16 (x16 (x16 (x16 (x16 (x16 (x16 (x16 (x16 (x1 (x1 (x1 (x1 (x1 (x1 (x1 (x1 (x1 (x1 (x1 (x1 (x1 (x1 (x1 (xh))))))))))))))))))))))))))))) rfl
theorem mw_1506 : (Jvm.Cond.methodLink "ScaleShopModel" (223 : Nat) ({ cls := "ScaleShopModel", name := "isFreeWay", desc := "(II)Z" } : Jvm.MethodName)) ∈ ws0 := zm (tb_6 (x16 (x16 (x16 (x16 (x16 (x16 (x16 (x16 (x16 (x16 (x16 (x16 (x16 (xh))))))))))))))) rfl
theorem mw_1508 : (Jvm.Cond.instanceMethod ({ cls := "ScaleShopModel", name := "isFreeWay", desc := "(II)Z" } : Jvm.MethodName)) ∈ ws0 := zm (tb_6 (x16 (x16 (x16 (x16 (x16 (x16 (x16 (x16 (x16 (x16 (x16 (x16 (x16 (x1 (x1 (xh))))))))))))))))) rfl
theorem mc_yX11_isFreeWay : (Cond.code yX11_isFreeWay cX11_isFreeWay 8 (some .boolean)) ∈ ws0 := zm (tb_6 (x16 (x16 (x16 (x16 (x16 (x16 (x16 (x16 (x16 (x16 (x16 (x16 (x16 (x1 (x1 (x1 (xh)))))))))))))))))) rfl
theorem mw_1510 : (Jvm.Cond.methodLink "ScaleShopModel" (238 : Nat) ({ cls := "ScaleShopModel", name := "isOnlyAt", desc := "(II)Z" } : Jvm.MethodName)) ∈ ws0 := zm (tb_6 (x16 (x16 (x16 (x16 (x16 (x16 (x16 (x16 (x16 (x16 (x16 (x16 (x16 (x1 (x1 (x1 (x1 (xh))))))))))))))))))) rfl
theorem mw_1512 : (Jvm.Cond.instanceMethod ({ cls := "ScaleShopModel", name := "isOnlyAt", desc := "(II)Z" } : Jvm.MethodName)) ∈ ws0 := zm (tb_6 (x16 (x16 (x16 (x16 (x16 (x16 (x16 (x16 (x16 (x16 (x16 (x16 (x16 (x1 (x1 (x1 (x1 (x1 (x1 (xh))))))))))))))))))))) rfl
theorem mc_yX11_isOnlyAt : (Cond.code yX11_isOnlyAt cX11_isOnlyAt 5 (some .boolean)) ∈ ws0 := zm (tb_6 (x16 (x16 (x16 (x16 (x16 (x16 (x16 (x16 (x16 (x16 (x16 (x16 (x16 (x1 (x1 (x1 (x1 (x1 (x1 (x1 (xh)))))))))))))))))))))) rfl
theorem mw_1514 : (Jvm.Cond.methodLink "ScaleShopModel" (241 : Nat) ({ cls := "ScaleShopModel", name := "isAhead", desc := "(IIII)Z" } : Jvm.MethodName)) ∈ ws0 := zm (tb_6 (x16 (x16 (x16 (x16 (x16 (x16 (x16 (x16 (x16 (x16 (x16 (x16 (x16 (x1 (x1 (x1 (x1 (x1 (x1 (x1 (x1 (xh))))))))))))))))))))))) rfl
theorem mw_1516 : (Jvm.Cond.instanceMethod ({ cls := "ScaleShopModel", name := "isAhead", desc := "(IIII)Z" } : Jvm.MethodName)) ∈ ws0 := zm (tb_6 (x16 (x16 (x16 (x16 (x16 (x16 (x16 (x16 (x16 (x16 (x16 (x16 (x16 (x1 (x1 (x1 (x1 (x1 (x1 (x1 (x1 (x1 (x1 (xh))))))))))))))))))))))))) rfl
theorem mc_yX11_isAhead : (Cond.code yX11_isAhead cX11_isAhead 5 (some .boolean)) ∈ ws0 := zm (tb_6 (x16 (x16 (x16 (x16 (x16 (x16 (x16 (x16 (x16 (x16 (x16 (x16 (x16 (x1 (x1 (x1 (x1 (x1 (x1 (x1 (x1 (x1 (x1 (x1 (xh)))))))))))))))))))))))))) rfl
theorem mw_1518 : (Jvm.Cond.methodLink "ScaleShopModel" (291 : Nat) ({ cls := "ScaleShopModel", name := "forgetNew", desc := "(I)V" } : Jvm.MethodName)) ∈ ws0 := zm (tb_6 (x16 (x16 (x16 (x16 (x16 (x16 (x16 (x16 (x16 (x16 (x16 (x16 (x16 (x1 (x1 (x1 (x1 (x1 (x1 (x1 (x1 (x1 (x1 (x1 (x1 (xh))))))))))))))))))))))))))) rfl
theorem mw_1520 : (Jvm.Cond.instanceMethod ({ cls := "ScaleShopModel", name := "forgetNew", desc := "(I)V" } : Jvm.MethodName)) ∈ ws0 := zm (tb_6 (x16 (x16 (x16 (x16 (x16 (x16 (x16 (x16 (x16 (x16 (x16 (x16 (x16 (x1 (x1 (x1 (x1 (x1 (x1 (x1 (x1 (x1 (x1 (x1 (x1 (x1 (x1 (xh))))))))))))))))))))))))))))) rfl
theorem mc_yX11_forgetNew : (Cond.code yX11_forgetNew cX11_forgetNew 3 none) ∈ ws0 := zm (tb_6 (x16 (x16 (x16 (x16 (x16 (x16 (x16 (x16 (x16 (x16 (x16 (x16 (x16 (x1 (x1 (x1 (x1 (x1 (x1 (x1 (x1 (x1 (x1 (x1 (x1 (x1 (x1 (x1 (xh)))))))))))))))))))))))))))))) rfl
theorem mw_1522 : (Jvm.Cond.methodLink "ScaleShopModel" (304 : Nat) ({ cls := "ScaleShopModel", name := "lose", desc := "(IIII)V" } : Jvm.MethodName)) ∈ ws0 := zm (tb_6 (x16 (x16 (x16 (x16 (x16 (x16 (x16 (x16 (x16 (x16 (x16 (x16 (x16 (x16 (xh)))))))))))))))) rfl
theorem mw_1524 : (Jvm.Cond.instanceMethod ({ cls := "ScaleShopModel", name := "lose", desc := "(IIII)V" } : Jvm.MethodName)) ∈ ws0 := zm (tb_6 (x16 (x16 (x16 (x16 (x16 (x16 (x16 (x16 (x16 (x16 (x16 (x16 (x16 (x16 (x1 (x1 (xh)))))))))))))))))) rfl
theorem mc_yX11_lose : (Cond.code yX11_lose cX11_lose 11 none) ∈ ws0 := zm (tb_6 (x16 (x16 (x16 (x16 (x16 (x16 (x16 (x16 (x16 (x16 (x16 (x16 (x16 (x16 (x1 (x1 (x1 (xh))))))))))))))))))) rfl
theorem mw_1526 : (Jvm.Cond.methodLink "ScaleShopModel" (328 : Nat) ({ cls := "ScaleShopModel", name := "squeeze", desc := "(I)V" } : Jvm.MethodName)) ∈ ws0 := zm (tb_6 (x16 (x16 (x16 (x16 (x16 (x16 (x16 (x16 (x16 (x16 (x16 (x16 (x16 (x16 (x1 (x1 (x1 (x1 (xh)))))))))))))))))))) rfl
theorem mw_1528 : (Jvm.Cond.instanceMethod ({ cls := "ScaleShopModel", name := "squeeze", desc := "(I)V" } : Jvm.MethodName)) ∈ ws0 := zm (tb_6 (x16 (x16 (x16 (x16 (x16 (x16 (x16 (x16 (x16 (x16 (x16 (x16 (x16 (x16 (x1 (x1 (x1 (x1 (x1 (x1 (xh)))))))))))))))))))))) rfl
theorem mc_yX11_squeeze : (Cond.code yX11_squeeze cX11_squeeze 4 none) ∈ ws0 := zm (tb_6 (x16 (x16 (x16 (x16 (x16 (x16 (x16 (x16 (x16 (x16 (x16 (x16 (x16 (x16 (x1 (x1 (x1 (x1 (x1 (x1 (x1 (xh))))))))))))))))))))))) rfl
theorem mw_1530 : (Jvm.Cond.methodLink "ScaleShopModel" (331 : Nat) ({ cls := "ScaleShopModel", name := "ends", desc := "(III)I" } : Jvm.MethodName)) ∈ ws0 := zm (tb_6 (x16 (x16 (x16 (x16 (x16 (x16 (x16 (x16 (x16 (x16 (x16 (x16 (x16 (x16 (x1 (x1 (x1 (x1 (x1 (x1 (x1 (x1 (xh)))))))))))))))))))))))) rfl
theorem mw_1532 : (Jvm.Cond.instanceMethod ({ cls := "ScaleShopModel", name := "ends", desc := "(III)I" } : Jvm.MethodName)) ∈ ws0 := zm (tb_6 (x16 (x16 (x16 (x16 (x16 (x16 (x16 (x16 (x16 (x16 (x16 (x16 (x16 (x16 (x1 (x1 (x1 (x1 (x1 (x1 (x1 (x1 (x1 (x1 (xh)))))))))))))))))))))))))) rfl
theorem mc_yX11_ends : (Cond.code yX11_ends cX11_ends 4 (some .int)) ∈ ws0 := zm (tb_6 (x16 (x16 (x16 (x16 (x16 (x16 (x16 (x16 (x16 (x16 (x16 (x16 (x16 (x16 (x1 (x1 (x1 (x1 (x1 (x1 (x1 (x1 (x1 (x1 (x1 (xh))))))))))))))))))))))))))) rfl
theorem mw_1534 : (Jvm.Cond.methodLink "ScaleShopLaw" (76 : Nat) ({ cls := "ScaleShopModel", name := "run", desc := "(I)I" } : Jvm.MethodName)) ∈ ws0 := zm (tb_6 (x16 (x16 (x16 (x16 (x16 (x16 (x16 (x16 (x16 (x16 (x16 (x16 (x16 (x16 (x1 (x1 (x1 (x1 (x1 (x1 (x1 (x1 (x1 (x1 (x1 (x1 (xh)))))))))))))))))))))))))))) rfl
theorem mw_1535 : (Jvm.Cond.instanceMethod ({ cls := "ScaleShopModel", name := "run", desc := "(I)I" } : Jvm.MethodName)) ∈ ws0 := zm (tb_6 (x16 (x16 (x16 (x16 (x16 (x16 (x16 (x16 (x16 (x16 (x16 (x16 (x16 (x16 (x1 (x1 (x1 (x1 (x1 (x1 (x1 (x1 (x1 (x1 (x1 (x1 (x1 (xh))))))))))))))))))))))))))))) rfl
theorem mw_1536 : (Jvm.Cond.selects "ScaleShopModel" ({ cls := "ScaleShopModel", name := "run", desc := "(I)I" } : Jvm.MethodName) ({ cls := "ScaleShopModel", name := "run", desc := "(I)I" } : Jvm.MethodName)) ∈ ws0 := zm (tb_6 (x16 (x16 (x16 (x16 (x16 (x16 (x16 (x16 (x16 (x16 (x16 (x16 (x16 (x16 (x1 (x1 (x1 (x1 (x1 (x1 (x1 (x1 (x1 (x1 (x1 (x1 (x1 (x1 (xh)))))))))))))))))))))))))))))) rfl
theorem mc_yX11_run : (Cond.code yX11_run cX11_run 2 (some .int)) ∈ ws0 := zm (tb_6 (x16 (x16 (x16 (x16 (x16 (x16 (x16 (x16 (x16 (x16 (x16 (x16 (x16 (x16 (x1 (x1 (x1 (x1 (x1 (x1 (x1 (x1 (x1 (x1 (x1 (x1 (x1 (x1 (x1 (xh))))))))))))))))))))))))))))))) rfl
theorem mw_1538 : (Jvm.Cond.methodLink "ScaleShopLaw" (40 : Nat) ({ cls := "ScaleShopModel", name := "smooth", desc := "(I)Z" } : Jvm.MethodName)) ∈ ws0 := zm (tb_7 (xh)) rfl
theorem mw_1539 : (Jvm.Cond.instanceMethod ({ cls := "ScaleShopModel", name := "smooth", desc := "(I)Z" } : Jvm.MethodName)) ∈ ws0 := zm (tb_7 (x1 (xh))) rfl
theorem mw_1540 : (Jvm.Cond.selects "ScaleShopModel" ({ cls := "ScaleShopModel", name := "smooth", desc := "(I)Z" } : Jvm.MethodName) ({ cls := "ScaleShopModel", name := "smooth", desc := "(I)Z" } : Jvm.MethodName)) ∈ ws0 := zm (tb_7 (x1 (x1 (xh)))) rfl
theorem mc_yX11_smooth : (Cond.code yX11_smooth cX11_smooth 6 (some .boolean)) ∈ ws0 := zm (tb_7 (x1 (x1 (x1 (xh))))) rfl
theorem mw_1542 : (Jvm.Cond.methodLink "ScaleShopModel" (337 : Nat) ({ cls := "ScaleShopModel", name := "moves", desc := "(I)Z" } : Jvm.MethodName)) ∈ ws0 := zm (tb_7 (x1 (x1 (x1 (x1 (xh)))))) rfl
theorem mw_1544 : (Jvm.Cond.instanceMethod ({ cls := "ScaleShopModel", name := "moves", desc := "(I)Z" } : Jvm.MethodName)) ∈ ws0 := zm (tb_7 (x1 (x1 (x1 (x1 (x1 (x1 (xh)))))))) rfl
theorem mc_yX11_moves : (Cond.code yX11_moves cX11_moves 3 (some .boolean)) ∈ ws0 := zm (tb_7 (x1 (x1 (x1 (x1 (x1 (x1 (x1 (xh))))))))) rfl
theorem mw_1546 : (Jvm.Cond.methodLink "ScaleShopModel" (340 : Nat) ({ cls := "ScaleShopModel", name := "changes", desc := "(II)Z" } : Jvm.MethodName)) ∈ ws0 := zm (tb_7 (x1 (x1 (x1 (x1 (x1 (x1 (x1 (x1 (xh)))))))))) rfl
theorem mw_1548 : (Jvm.Cond.instanceMethod ({ cls := "ScaleShopModel", name := "changes", desc := "(II)Z" } : Jvm.MethodName)) ∈ ws0 := zm (tb_7 (x1 (x1 (x1 (x1 (x1 (x1 (x1 (x1 (x1 (x1 (xh)))))))))))) rfl
theorem mc_yX11_changes : (Cond.code yX11_changes cX11_changes 5 (some .boolean)) ∈ ws0 := zm (tb_7 (x1 (x1 (x1 (x1 (x1 (x1 (x1 (x1 (x1 (x1 (x1 (xh))))))))))))) rfl
theorem mw_1550 : (Jvm.Cond.methodLink "ScaleShopModel" (334 : Nat) ({ cls := "ScaleShopModel", name := "give", desc := "(I)V" } : Jvm.MethodName)) ∈ ws0 := zm (tb_7 (x1 (x1 (x1 (x1 (x1 (x1 (x1 (x1 (x1 (x1 (x1 (x1 (xh)))))))))))))) rfl
theorem mw_1552 : (Jvm.Cond.instanceMethod ({ cls := "ScaleShopModel", name := "give", desc := "(I)V" } : Jvm.MethodName)) ∈ ws0 := zm (tb_7 (x1 (x1 (x1 (x1 (x1 (x1 (x1 (x1 (x1 (x1 (x1 (x1 (x1 (x1 (xh)))))))))))))))) rfl
theorem mc_yX11_give : (Cond.code yX11_give cX11_give 3 none) ∈ ws0 := zm (tb_7 (x1 (x1 (x1 (x1 (x1 (x1 (x1 (x1 (x1 (x1 (x1 (x1 (x1 (x1 (x1 (xh))))))))))))))))) rfl
theorem mw_1554 : (Jvm.Cond.methodLink "ScaleShopLaw" (45 : Nat) ({ cls := "ScaleShopModel", name := "shift", desc := "(IIIII)Z" } : Jvm.MethodName)) ∈ ws0 := zm (tb_7 (x16 (xh))) rfl
theorem mw_1555 : (Jvm.Cond.instanceMethod ({ cls := "ScaleShopModel", name := "shift", desc := "(IIIII)Z" } : Jvm.MethodName)) ∈ ws0 := zm (tb_7 (x16 (x1 (xh)))) rfl
theorem mw_1556 : (Jvm.Cond.selects "ScaleShopModel" ({ cls := "ScaleShopModel", name := "shift", desc := "(IIIII)Z" } : Jvm.MethodName) ({ cls := "ScaleShopModel", name := "shift", desc := "(IIIII)Z" } : Jvm.MethodName)) ∈ ws0 := zm (tb_7 (x16 (x1 (x1 (xh))))) rfl
theorem mc_yX11_shift : (Cond.code yX11_shift cX11_shift 13 (some .boolean)) ∈ ws0 := zm (tb_7 (x16 (x1 (x1 (x1 (xh)))))) rfl
theorem mw_1558 : (Jvm.Cond.methodLink "ScaleShopModel" (343 : Nat) ({ cls := "ScaleShopModel", name := "wayOf", desc := "(III)I" } : Jvm.MethodName)) ∈ ws0 := zm (tb_7 (x16 (x1 (x1 (x1 (x1 (xh))))))) rfl
theorem mw_1560 : (Jvm.Cond.instanceMethod ({ cls := "ScaleShopModel", name := "wayOf", desc := "(III)I" } : Jvm.MethodName)) ∈ ws0 := zm (tb_7 (x16 (x1 (x1 (x1 (x1 (x1 (x1 (xh))))))))) rfl
theorem mc_yX11_wayOf : (Cond.code yX11_wayOf cX11_wayOf 5 (some .int)) ∈ ws0 := zm (tb_7 (x16 (x1 (x1 (x1 (x1 (x1 (x1 (x1 (xh)))))))))) rfl
theorem mw_1562 : (Jvm.Cond.methodLink "ScaleShopModel" (179 : Nat) ({ cls := "java/lang/Math", name := "abs", desc := "(I)I" } : Jvm.MethodName)) ∈ ws0 := zm (tb_7 (x16 (x1 (x1 (x1 (x1 (x1 (x1 (x1 (x1 (xh))))))))))) rfl
theorem mw_1563 : (Jvm.Cond.methodLink "ScaleShopLaw" (49 : Nat) ({ cls := "ScaleShopModel", name := "grow", desc := "(I)Z" } : Jvm.MethodName)) ∈ ws0 := zm (tb_7 (x16 (x1 (x1 (x1 (x1 (x1 (x1 (x1 (x1 (x1 (xh)))))))))))) rfl
theorem mw_1564 : (Jvm.Cond.instanceMethod ({ cls := "ScaleShopModel", name := "grow", desc := "(I)Z" } : Jvm.MethodName)) ∈ ws0 := zm (tb_7 (x16 (x1 (x1 (x1 (x1 (x1 (x1 (x1 (x1 (x1 (x1 (xh))))))))))))) rfl
theorem mw_1565 : (Jvm.Cond.selects "ScaleShopModel" ({ cls := "ScaleShopModel", name := "grow", desc := "(I)Z" } : Jvm.MethodName) ({ cls := "ScaleShopModel", name := "grow", desc := "(I)Z" } : Jvm.MethodName)) ∈ ws0 := zm (tb_7 (x16 (x1 (x1 (x1 (x1 (x1 (x1 (x1 (x1 (x1 (x1 (x1 (xh)))))))))))))) rfl
theorem mc_yX11_grow : (Cond.code yX11_grow cX11_grow 4 (some .boolean)) ∈ ws0 := zm (tb_7 (x16 (x1 (x1 (x1 (x1 (x1 (x1 (x1 (x1 (x1 (x1 (x1 (x1 (xh))))))))))))))) rfl
theorem mw_1567 : (Jvm.Cond.methodLink "ScaleShopLaw" (54 : Nat) ({ cls := "ScaleShopModel", name := "square", desc := "(II)Z" } : Jvm.MethodName)) ∈ ws0 := zm (tb_7 (x16 (x1 (x1 (x1 (x1 (x1 (x1 (x1 (x1 (x1 (x1 (x1 (x1 (x1 (xh)))))))))))))))) rfl
theorem mw_1568 : (Jvm.Cond.instanceMethod ({ cls := "ScaleShopModel", name := "square", desc := "(II)Z" } : Jvm.MethodName)) ∈ ws0 := zm (tb_7 (x16 (x1 (x1 (x1 (x1 (x1 (x1 (x1 (x1 (x1 (x1 (x1 (x1 (x1 (x1 (xh))))))))))))))))) rfl
theorem mw_1569 : (Jvm.Cond.selects "ScaleShopModel" ({ cls := "ScaleShopModel", name := "square", desc := "(II)Z" } : Jvm.MethodName) ({ cls := "ScaleShopModel", name := "square", desc := "(II)Z" } : Jvm.MethodName)) ∈ ws0 := zm (tb_7 (x16 (x1 (x1 (x1 (x1 (x1 (x1 (x1 (x1 (x1 (x1 (x1 (x1 (x1 (x1 (x1 (xh)))))))))))))))))) rfl
theorem mc_yX11_square : (Cond.code yX11_square cX11_square 6 (some .boolean)) ∈ ws0 := zm (tb_7 (x16 (x16 (xh)))) rfl
theorem mw_1571 : (Jvm.Cond.methodLink "ScaleShopModel" (358 : Nat) ({ cls := "ScaleShopModel", name := "box", desc := "(IZ)V" } : Jvm.MethodName)) ∈ ws0 := zm (tb_7 (x16 (x16 (x1 (xh))))) rfl
theorem mw_1573 : (Jvm.Cond.instanceMethod ({ cls := "ScaleShopModel", name := "box", desc := "(IZ)V" } : Jvm.MethodName)) ∈ ws0 := zm (tb_7 (x16 (x16 (x1 (x1 (x1 (xh))))))) rfl
theorem mc_yX11_box : (Cond.code yX11_box cX11_box 7 none) ∈ ws0 := zm (tb_7 (x16 (x16 (x1 (x1 (x1 (x1 (xh)))))))) rfl
theorem mw_1575 : (Jvm.Cond.constantLong "ScaleShopModel" (362 : Nat) (2 : Int64)) ∈ ws0 := zm (tb_7 (x16 (x16 (x1 (x1 (x1 (x1 (x1 (xh))))))))) rfl
theorem mw_1576 : (Jvm.Cond.methodLink "ScaleShopModel" (364 : Nat) ({ cls := "ScaleShopModel", name := "area", desc := "(I)J" } : Jvm.MethodName)) ∈ ws0 := zm (tb_7 (x16 (x16 (x1 (x1 (x1 (x1 (x1 (x1 (xh)))))))))) rfl
theorem mw_1578 : (Jvm.Cond.instanceMethod ({ cls := "ScaleShopModel", name := "area", desc := "(I)J" } : Jvm.MethodName)) ∈ ws0 := zm (tb_7 (x16 (x16 (x1 (x1 (x1 (x1 (x1 (x1 (x1 (x1 (xh)))))))))))) rfl
theorem mc_yX11_area : (Cond.code yX11_area cX11_area 5 (some .long)) ∈ ws0 := zm (tb_7 (x16 (x16 (x1 (x1 (x1 (x1 (x1 (x1 (x1 (x1 (x1 (xh))))))))))))) rfl
theorem mw_1580 : (Jvm.Cond.methodLink "ScaleShopModel" (368 : Nat) ({ cls := "ScaleShopModel", name := "layBox", desc := "(I)V" } : Jvm.MethodName)) ∈ ws0 := zm (tb_7 (x16 (x16 (x1 (x1 (x1 (x1 (x1 (x1 (x1 (x1 (x1 (x1 (xh)))))))))))))) rfl
theorem mw_1582 : (Jvm.Cond.instanceMethod ({ cls := "ScaleShopModel", name := "layBox", desc := "(I)V" } : Jvm.MethodName)) ∈ ws0 := zm (tb_7 (x16 (x16 (x1 (x1 (x1 (x1 (x1 (x1 (x1 (x1 (x1 (x1 (x1 (x1 (xh)))))))))))))))) rfl
theorem mc_yX11_layBox : (Cond.code yX11_layBox cX11_layBox 3 none) ∈ ws0 := zm (tb_7 (x16 (x16 (x1 (x1 (x1 (x1 (x1 (x1 (x1 (x1 (x1 (x1 (x1 (x1 (x1 (xh))))))))))))))))) rfl
theorem mw_1584 : (Jvm.Cond.methodLink "ScaleShopLaw" (58 : Nat) ({ cls := "ScaleShopModel", name := "join", desc := "(III)I" } : Jvm.MethodName)) ∈ ws0 := zm (tb_7 (x16 (x16 (x1 (x1 (x1 (x1 (x1 (x1 (x1 (x1 (x1 (x1 (x1 (x1 (x1 (x1 (xh)))))))))))))))))) rfl
theorem mw_1585 : (Jvm.Cond.instanceMethod ({ cls := "ScaleShopModel", name := "join", desc := "(III)I" } : Jvm.MethodName)) ∈ ws0 := zm (tb_7 (x16 (x16 (x1 (x1 (x1 (x1 (x1 (x1 (x1 (x1 (x1 (x1 (x1 (x1 (x1 (x1 (x1 (xh))))))))))))))))))) rfl
theorem mw_1586 : (Jvm.Cond.selects "ScaleShopModel" ({ cls := "ScaleShopModel", name := "join", desc := "(III)I" } : Jvm.MethodName) ({ cls := "ScaleShopModel", name := "join", desc := "(III)I" } : Jvm.MethodName)) ∈ ws0 := zm (tb_7 (x16 (x16 (x16 (xh))))) rfl
theorem mc_yX11_join : (Cond.code yX11_join cX11_join 9 (some .int)) ∈ ws0 := zm (tb_7 (x16 (x16 (x16 (x1 (xh)))))) rfl
theorem mw_1588 : (Jvm.Cond.methodLink "ScaleShopModel" (389 : Nat) ({ cls := "ScaleShopModel", name := "distance", desc := "(II)V" } : Jvm.MethodName)) ∈ ws0 := zm (tb_7 (x16 (x16 (x16 (x1 (x1 (xh))))))) rfl
theorem mw_1590 : (Jvm.Cond.instanceMethod ({ cls := "ScaleShopModel", name := "distance", desc := "(II)V" } : Jvm.MethodName)) ∈ ws0 := zm (tb_7 (x16 (x16 (x16 (x1 (x1 (x1 (x1 (xh))))))))) rfl
theorem mc_yX11_distance : (Cond.code yX11_distance cX11_distance 5 none) ∈ ws0 := zm (tb_7 (x16 (x16 (x16 (x1 (x1 (x1 (x1 (x1 (xh)))))))))) rfl
theorem mw_1592 : (Jvm.Cond.methodLink "ScaleShopModel" (382 : Nat) ({ cls := "ScaleShopModel", name := "nearer", desc := "([IIII)V" } : Jvm.MethodName)) ∈ ws0 := zm (tb_7 (x16 (x16 (x16 (x1 (x1 (x1 (x1 (x1 (x1 (xh))))))))))) rfl
theorem mw_1594 : (Jvm.Cond.instanceMethod ({ cls := "ScaleShopModel", name := "nearer", desc := "([IIII)V" } : Jvm.MethodName)) ∈ ws0 := zm (tb_7 (x16 (x16 (x16 (x1 (x1 (x1 (x1 (x1 (x1 (x1 (x1 (xh))))))))))))) rfl
theorem mc_yX11_nearer : (Cond.code yX11_nearer cX11_nearer 23 none) ∈ ws0 := zm (tb_7 (x16 (x16 (x16 (x1 (x1 (x1 (x1 (x1 (x1 (x1 (x1 (x1 (xh)))))))))))))) rfl
theorem mw_1596 : (Jvm.Cond.methodLink "ScaleShopModel" (378 : Nat) ({ cls := "ScaleShopModel", name := "isLess", desc := "(JJJJ)Z" } : Jvm.MethodName)) ∈ ws0 := zm (tb_7 (x16 (x16 (x16 (x1 (x1 (x1 (x1 (x1 (x1 (x1 (x1 (x1 (x1 (xh))))))))))))))) rfl
theorem mw_1598 : (Jvm.Cond.instanceMethod ({ cls := "ScaleShopModel", name := "isLess", desc := "(JJJJ)Z" } : Jvm.MethodName)) ∈ ws0 := zm (tb_7 (x16 (x16 (x16 (x1 (x1 (x1 (x1 (x1 (x1 (x1 (x1 (x1 (x1 (x1 (x1 (xh))))))))))))))))) rfl
theorem mc_yX11_isLess : (Cond.code yX11_isLess cX11_isLess 9 (some .boolean)) ∈ ws0 := zm (tb_7 (x16 (x16 (x16 (x1 (x1 (x1 (x1 (x1 (x1 (x1 (x1 (x1 (x1 (x1 (x1 (x1 (xh)))))))))))))))))) rfl
theorem mw_1600 : (Jvm.Cond.methodLink "ScaleShopModel" (386 : Nat) ({ cls := "ScaleShopModel", name := "plainFraction", desc := "()V" } : Jvm.MethodName)) ∈ ws0 := zm (tb_7 (x16 (x16 (x16 (x1 (x1 (x1 (x1 (x1 (x1 (x1 (x1 (x1 (x1 (x1 (x1 (x1 (x1 (xh))))))))))))))))))) rfl
theorem mw_1602 : (Jvm.Cond.instanceMethod ({ cls := "ScaleShopModel", name := "plainFraction", desc := "()V" } : Jvm.MethodName)) ∈ ws0 := zm (tb_7 (x16 (x16 (x16 (x16 (xh)))))) rfl
theorem mc_yX11_plainFraction : (Cond.code yX11_plainFraction cX11_plainFraction 7 none) ∈ ws0 := zm (tb_7 (x16 (x16 (x16 (x16 (x1 (xh))))))) rfl
theorem mw_1604 : (Jvm.Cond.methodLink "ScaleShopModel" (393 : Nat) ({ cls := "ScaleShopModel", name := "gone", desc := "(II)V" } : Jvm.MethodName)) ∈ ws0 := zm (tb_7 (x16 (x16 (x16 (x16 (x1 (x1 (xh)))))))) rfl
theorem mw_1606 : (Jvm.Cond.instanceMethod ({ cls := "ScaleShopModel", name := "gone", desc := "(II)V" } : Jvm.MethodName)) ∈ ws0 := zm (tb_7 (x16 (x16 (x16 (x16 (x1 (x1 (x1 (x1 (xh)))))))))) rfl
theorem mc_yX11_gone : (Cond.code yX11_gone cX11_gone 3 none) ∈ ws0 := zm (tb_7 (x16 (x16 (x16 (x16 (x1 (x1 (x1 (x1 (x1 (xh))))))))))) rfl
theorem mw_1608 : (Jvm.Cond.methodLink "ScaleShopLaw" (62 : Nat) ({ cls := "ScaleShopModel", name := "drop", desc := "(I)Z" } : Jvm.MethodName)) ∈ ws0 := zm (tb_7 (x16 (x16 (x16 (x16 (x1 (x1 (x1 (x1 (x1 (x1 (xh)))))))))))) rfl
theorem mw_1609 : (Jvm.Cond.instanceMethod ({ cls := "ScaleShopModel", name := "drop", desc := "(I)Z" } : Jvm.MethodName)) ∈ ws0 := zm (tb_7 (x16 (x16 (x16 (x16 (x1 (x1 (x1 (x1 (x1 (x1 (x1 (xh))))))))))))) rfl
theorem mw_1610 : (Jvm.Cond.selects "ScaleShopModel" ({ cls := "ScaleShopModel", name := "drop", desc := "(I)Z" } : Jvm.MethodName) ({ cls := "ScaleShopModel", name := "drop", desc := "(I)Z" } : Jvm.MethodName)) ∈ ws0 := zm (tb_7 (x16 (x16 (x16 (x16 (x1 (x1 (x1 (x1 (x1 (x1 (x1 (x1 (xh)))))))))))))) rfl
theorem mc_yX11_drop : (Cond.code yX11_drop cX11_drop 4 (some .boolean)) ∈ ws0 := zm (tb_7 (x16 (x16 (x16 (x16 (x1 (x1 (x1 (x1 (x1 (x1 (x1 (x1 (x1 (xh))))))))))))))) rfl
theorem mw_1612 : (Jvm.Cond.methodLink "ScaleShopLaw" (66 : Nat) ({ cls := "ScaleShopModel", name := "few", desc := "(II)I" } : Jvm.MethodName)) ∈ ws0 := zm (tb_7 (x16 (x16 (x16 (x16 (x1 (x1 (x1 (x1 (x1 (x1 (x1 (x1 (x1 (x1 (xh)))))))))))))))) rfl
theorem mw_1613 : (Jvm.Cond.instanceMethod ({ cls := "ScaleShopModel", name := "few", desc := "(II)I" } : Jvm.MethodName)) ∈ ws0 := zm (tb_7 (x16 (x16 (x16 (x16 (x1 (x1 (x1 (x1 (x1 (x1 (x1 (x1 (x1 (x1 (x1 (xh))))))))))))))))) rfl
theorem mw_1614 : (Jvm.Cond.selects "ScaleShopModel" ({ cls := "ScaleShopModel", name := "few", desc := "(II)I" } : Jvm.MethodName) ({ cls := "ScaleShopModel", name := "few", desc := "(II)I" } : Jvm.MethodName)) ∈ ws0 := zm (tb_7 (x16 (x16 (x16 (x16 (x1 (x1 (x1 (x1 (x1 (x1 (x1 (x1 (x1 (x1 (x1 (x1 (xh)))))))))))))))))) rfl
theorem mc_yX11_few : (Cond.code yX11_few cX11_few 9 (some .int)) ∈ ws0 := zm (tb_7 (x16 (x16 (x16 (x16 (x1 (x1 (x1 (x1 (x1 (x1 (x1 (x1 (x1 (x1 (x1 (x1 (x1 (xh))))))))))))))))))) rfl
theorem mw_1616 : (Jvm.Cond.methodLink "ScaleShopModel" (396 : Nat) ({ cls := "ScaleShopModel", name := "isSmall", desc := "(II)Z" } : Jvm.MethodName)) ∈ ws0 := zm (tb_7 (x16 (x16 (x16 (x16 (x1 (x1 (x1 (x1 (x1 (x1 (x1 (x1 (x1 (x1 (x1 (x1 (x1 (x1 (xh)))))))))))))))))))) rfl
theorem mw_1618 : (Jvm.Cond.instanceMethod ({ cls := "ScaleShopModel", name := "isSmall", desc := "(II)Z" } : Jvm.MethodName)) ∈ ws0 := zm (tb_7 (x16 (x16 (x16 (x16 (x16 (xh))))))) rfl
theorem mc_yX11_isSmall : (Cond.code yX11_isSmall cX11_isSmall 3 (some .boolean)) ∈ ws0 := zm (tb_7 (x16 (x16 (x16 (x16 (x16 (x1 (xh)))))))) rfl
theorem mw_1620 : (Jvm.Cond.constantLong "ScaleShopModel" (399 : Nat) (-1 : Int64)) ∈ ws0 := zm (tb_7 (x16 (x16 (x16 (x16 (x16 (x1 (x1 (xh))))))))) rfl
theorem mw_1621 : (Jvm.Cond.methodLink "ScaleShopModel" (401 : Nat) ({ cls := "ScaleShopModel", name := "dropMarked", desc := "(I)I" } : Jvm.MethodName)) ∈ ws0 := zm (tb_7 (x16 (x16 (x16 (x16 (x16 (x1 (x1 (x1 (xh)))))))))) rfl
theorem mw_1623 : (Jvm.Cond.instanceMethod ({ cls := "ScaleShopModel", name := "dropMarked", desc := "(I)I" } : Jvm.MethodName)) ∈ ws0 := zm (tb_7 (x16 (x16 (x16 (x16 (x16 (x1 (x1 (x1 (x1 (x1 (xh)))))))))))) rfl
theorem mc_yX11_dropMarked : (Cond.code yX11_dropMarked cX11_dropMarked 4 (some .int)) ∈ ws0 := zm (tb_7 (x16 (x16 (x16 (x16 (x16 (x1 (x1 (x1 (x1 (x1 (x1 (xh))))))))))))) rfl
theorem mw_1625 : (Jvm.Cond.methodLink "ScaleShopLaw" (71 : Nat) ({ cls := "ScaleShopModel", name := "choose", desc := "()I" } : Jvm.MethodName)) ∈ ws0 := zm (tb_7 (x16 (x16 (x16 (x16 (x16 (x1 (x1 (x1 (x1 (x1 (x1 (x1 (xh)))))))))))))) rfl
theorem mw_1626 : (Jvm.Cond.instanceMethod ({ cls := "ScaleShopModel", name := "choose", desc := "()I" } : Jvm.MethodName)) ∈ ws0 := zm (tb_7 (x16 (x16 (x16 (x16 (x16 (x1 (x1 (x1 (x1 (x1 (x1 (x1 (x1 (xh))))))))))))))) rfl
theorem mw_1627 : (Jvm.Cond.selects "ScaleShopModel" ({ cls := "ScaleShopModel", name := "choose", desc := "()I" } : Jvm.MethodName) ({ cls := "ScaleShopModel", name := "choose", desc := "()I" } : Jvm.MethodName)) ∈ ws0 := zm (tb_7 (x16 (x16 (x16 (x16 (x16 (x1 (x1 (x1 (x1 (x1 (x1 (x1 (x1 (x1 (xh)))))))))))))))) rfl
theorem mc_yX11_choose : (Cond.code yX11_choose cX11_choose 7 (some .int)) ∈ ws0 := zm (tb_7 (x16 (x16 (x16 (x16 (x16 (x1 (x1 (x1 (x1 (x1 (x1 (x1 (x1 (x1 (x1 (xh))))))))))))))))) rfl
theorem mw_1629 : (Jvm.Cond.methodLink "ScaleShopModel" (410 : Nat) ({ cls := "ScaleShopModel", name := "isRoad", desc := "(I)Z" } : Jvm.MethodName)) ∈ ws0 := zm (tb_7 (x16 (x16 (x16 (x16 (x16 (x1 (x1 (x1 (x1 (x1 (x1 (x1 (x1 (x1 (x1 (x1 (xh)))))))))))))))))) rfl
theorem mw_1631 : (Jvm.Cond.instanceMethod ({ cls := "ScaleShopModel", name := "isRoad", desc := "(I)Z" } : Jvm.MethodName)) ∈ ws0 := zm (tb_7 (x16 (x16 (x16 (x16 (x16 (x1 (x1 (x1 (x1 (x1 (x1 (x1 (x1 (x1 (x1 (x1 (x1 (x1 (xh)))))))))))))))))))) rfl
theorem mc_yX11_isRoad : (Cond.code yX11_isRoad cX11_isRoad 2 (some .boolean)) ∈ ws0 := zm (tb_7 (x16 (x16 (x16 (x16 (x16 (x1 (x1 (x1 (x1 (x1 (x1 (x1 (x1 (x1 (x1 (x1 (x1 (x1 (x1 (xh))))))))))))))))))))) rfl
theorem mw_1633 : (Jvm.Cond.methodLink "ScaleShopModel" (413 : Nat) ({ cls := "ScaleShopModel", name := "weight", desc := "(I)J" } : Jvm.MethodName)) ∈ ws0 := zm (tb_7 (x16 (x16 (x16 (x16 (x16 (x1 (x1 (x1 (x1 (x1 (x1 (x1 (x1 (x1 (x1 (x1 (x1 (x1 (x1 (x1 (xh)))))))))))))))))))))) rfl
theorem mw_1635 : (Jvm.Cond.instanceMethod ({ cls := "ScaleShopModel", name := "weight", desc := "(I)J" } : Jvm.MethodName)) ∈ ws0 := zm (tb_7 (x16 (x16 (x16 (x16 (x16 (x16 (x1 (xh))))))))) rfl
theorem mc_yX11_weight : (Cond.code yX11_weight cX11_weight 2 (some .long)) ∈ ws0 := zm (tb_7 (x16 (x16 (x16 (x16 (x16 (x16 (x1 (x1 (xh)))))))))) rfl
theorem mw_1637 : (Jvm.Cond.methodLink "ScaleShopModel" (407 : Nat) ({ cls := "ScaleShopModel", name := "lengthOf", desc := "(I)J" } : Jvm.MethodName)) ∈ ws0 := zm (tb_7 (x16 (x16 (x16 (x16 (x16 (x16 (x1 (x1 (x1 (xh))))))))))) rfl
theorem mw_1639 : (Jvm.Cond.instanceMethod ({ cls := "ScaleShopModel", name := "lengthOf", desc := "(I)J" } : Jvm.MethodName)) ∈ ws0 := zm (tb_7 (x16 (x16 (x16 (x16 (x16 (x16 (x1 (x1 (x1 (x1 (x1 (xh))))))))))))) rfl
theorem mc_yX11_lengthOf : (Cond.code yX11_lengthOf cX11_lengthOf 5 (some .long)) ∈ ws0 := zm (tb_7 (x16 (x16 (x16 (x16 (x16 (x16 (x1 (x1 (x1 (x1 (x1 (x1 (xh)))))))))))))) rfl
theorem mw_1641 : (Jvm.Cond.methodLink "ScaleShopModel" (416 : Nat) ({ cls := "ScaleShopModel", name := "placeOf", desc := "(II)I" } : Jvm.MethodName)) ∈ ws0 := zm (tb_7 (x16 (x16 (x16 (x16 (x16 (x16 (x1 (x1 (x1 (x1 (x1 (x1 (x1 (xh))))))))))))))) rfl
theorem mw_1643 : (Jvm.Cond.instanceMethod ({ cls := "ScaleShopModel", name := "placeOf", desc := "(II)I" } : Jvm.MethodName)) ∈ ws0 := zm (tb_7 (x16 (x16 (x16 (x16 (x16 (x16 (x1 (x1 (x1 (x1 (x1 (x1 (x1 (x1 (x1 (xh))))))))))))))))) rfl
theorem mc_yX11_placeOf : (Cond.code yX11_placeOf cX11_placeOf 4 (some .int)) ∈ ws0 := zm (tb_7 (x16 (x16 (x16 (x16 (x16 (x16 (x1 (x1 (x1 (x1 (x1 (x1 (x1 (x1 (x1 (x1 (xh)))))))))))))))))) rfl
theorem mw_1645 : (Jvm.Cond.methodLink "ScaleShopLaw" (80 : Nat) ({ cls := "ScaleShopModel", name := "undo", desc := "()I" } : Jvm.MethodName)) ∈ ws0 := zm (tb_7 (x16 (x16 (x16 (x16 (x16 (x16 (x1 (x1 (x1 (x1 (x1 (x1 (x1 (x1 (x1 (x1 (x1 (xh))))))))))))))))))) rfl
theorem mw_1646 : (Jvm.Cond.instanceMethod ({ cls := "ScaleShopModel", name := "undo", desc := "()I" } : Jvm.MethodName)) ∈ ws0 := zm (tb_7 (x16 (x16 (x16 (x16 (x16 (x16 (x1 (x1 (x1 (x1 (x1 (x1 (x1 (x1 (x1 (x1 (x1 (x1 (xh)))))))))))))))))))) rfl
theorem mw_1647 : (Jvm.Cond.selects "ScaleShopModel" ({ cls := "ScaleShopModel", name := "undo", desc := "()I" } : Jvm.MethodName) ({ cls := "ScaleShopModel", name := "undo", desc := "()I" } : Jvm.MethodName)) ∈ ws0 := zm (tb_7 (x16 (x16 (x16 (x16 (x16 (x16 (x1 (x1 (x1 (x1 (x1 (x1 (x1 (x1 (x1 (x1 (x1 (x1 (x1 (xh))))))))))))))))))))) rfl
theorem mc_yX11_undo : (Cond.code yX11_undo cX11_undo 1 (some .int)) ∈ ws0 := zm (tb_7 (x16 (x16 (x16 (x16 (x16 (x16 (x1 (x1 (x1 (x1 (x1 (x1 (x1 (x1 (x1 (x1 (x1 (x1 (x1 (x1 (xh)))))))))))))))))))))) rfl
theorem mw_1649 : (Jvm.Cond.methodLink "ScaleShopModel" (419 : Nat) ({ cls := "ScaleShopModel", name := "restore", desc := "(I)V" } : Jvm.MethodName)) ∈ ws0 := zm (tb_7 (x16 (x16 (x16 (x16 (x16 (x16 (x1 (x1 (x1 (x1 (x1 (x1 (x1 (x1 (x1 (x1 (x1 (x1 (x1 (x1 (x1 (xh))))))))))))))))))))))) rfl
theorem mw_1651 : (Jvm.Cond.instanceMethod ({ cls := "ScaleShopModel", name := "restore", desc := "(I)V" } : Jvm.MethodName)) ∈ ws0 := zm (tb_7 (x16 (x16 (x16 (x16 (x16 (x16 (x16 (x1 (xh)))))))))) rfl
theorem mc_yX11_restore : (Cond.code yX11_restore cX11_restore 5 none) ∈ ws0 := zm (tb_7 (x16 (x16 (x16 (x16 (x16 (x16 (x16 (x1 (x1 (xh))))))))))) rfl
theorem mw_1653 : (Jvm.Cond.methodLink "ScaleShopModel" (253 : Nat) ({ cls := "ScaleShopModel", name := "next", desc := "()I" } : Jvm.MethodName)) ∈ ws0 := zm (tb_7 (x16 (x16 (x16 (x16 (x16 (x16 (x16 (x1 (x1 (x1 (xh)))))))))))) rfl
theorem mw_1655 : (Jvm.Cond.instanceMethod ({ cls := "ScaleShopModel", name := "next", desc := "()I" } : Jvm.MethodName)) ∈ ws0 := zm (tb_7 (x16 (x16 (x16 (x16 (x16 (x16 (x16 (x1 (x1 (x1 (x1 (x1 (xh)))))))))))))) rfl
theorem mc_yX11_next : (Cond.code yX11_next cX11_next 1 (some .int)) ∈ ws0 := zm (tb_7 (x16 (x16 (x16 (x16 (x16 (x16 (x16 (x1 (x1 (x1 (x1 (x1 (x1 (xh))))))))))))))) rfl
theorem mw_1657 : (Jvm.Cond.methodLink "ScaleShopLaw" (84 : Nat) ({ cls := "ScaleShopModel", name := "redo", desc := "()I" } : Jvm.MethodName)) ∈ ws0 := zm (tb_7 (x16 (x16 (x16 (x16 (x16 (x16 (x16 (x1 (x1 (x1 (x1 (x1 (x1 (x1 (xh)))))))))))))))) rfl
theorem mw_1658 : (Jvm.Cond.instanceMethod ({ cls := "ScaleShopModel", name := "redo", desc := "()I" } : Jvm.MethodName)) ∈ ws0 := zm (tb_7 (x16 (x16 (x16 (x16 (x16 (x16 (x16 (x1 (x1 (x1 (x1 (x1 (x1 (x1 (x1 (xh))))))))))))))))) rfl
theorem mw_1659 : (Jvm.Cond.selects "ScaleShopModel" ({ cls := "ScaleShopModel", name := "redo", desc := "()I" } : Jvm.MethodName) ({ cls := "ScaleShopModel", name := "redo", desc := "()I" } : Jvm.MethodName)) ∈ ws0 := zm (tb_7 (x16 (x16 (x16 (x16 (x16 (x16 (x16 (x1 (x1 (x1 (x1 (x1 (x1 (x1 (x1 (x1 (xh)))))))))))))))))) rfl
theorem mc_yX11_redo : (Cond.code yX11_redo cX11_redo 1 (some .int)) ∈ ws0 := zm (tb_7 (x16 (x16 (x16 (x16 (x16 (x16 (x16 (x1 (x1 (x1 (x1 (x1 (x1 (x1 (x1 (x1 (x1 (xh))))))))))))))))))) rfl
theorem mw_1661 : (Jvm.Cond.methodLink "ScaleShopLaw" (88 : Nat) ({ cls := "ScaleShopModel", name := "meets", desc := "(II)Z" } : Jvm.MethodName)) ∈ ws0 := zm (tb_7 (x16 (x16 (x16 (x16 (x16 (x16 (x16 (x1 (x1 (x1 (x1 (x1 (x1 (x1 (x1 (x1 (x1 (x1 (xh)))))))))))))))))))) rfl
theorem mw_1662 : (Jvm.Cond.instanceMethod ({ cls := "ScaleShopModel", name := "meets", desc := "(II)Z" } : Jvm.MethodName)) ∈ ws0 := zm (tb_7 (x16 (x16 (x16 (x16 (x16 (x16 (x16 (x1 (x1 (x1 (x1 (x1 (x1 (x1 (x1 (x1 (x1 (x1 (x1 (xh))))))))))))))))))))) rfl
theorem mw_1663 : (Jvm.Cond.selects "ScaleShopModel" ({ cls := "ScaleShopModel", name := "meets", desc := "(II)Z" } : Jvm.MethodName) ({ cls := "ScaleShopModel", name := "meets", desc := "(II)Z" } : Jvm.MethodName)) ∈ ws0 := zm (tb_7 (x16 (x16 (x16 (x16 (x16 (x16 (x16 (x1 (x1 (x1 (x1 (x1 (x1 (x1 (x1 (x1 (x1 (x1 (x1 (x1 (xh)))))))))))))))))))))) rfl
theorem mc_yX11_meets : (Cond.code yX11_meets cX11_meets 3 (some .boolean)) ∈ ws0 := zm (tb_7 (x16 (x16 (x16 (x16 (x16 (x16 (x16 (x1 (x1 (x1 (x1 (x1 (x1 (x1 (x1 (x1 (x1 (x1 (x1 (x1 (x1 (xh))))))))))))))))))))))) rfl
theorem mw_1665 : (Jvm.Cond.methodLink "ScaleShopLaw" (92 : Nat) ({ cls := "ScaleShopModel", name := "inside", desc := "(III)I" } : Jvm.MethodName)) ∈ ws0 := zm (tb_7 (x16 (x16 (x16 (x16 (x16 (x16 (x16 (x1 (x1 (x1 (x1 (x1 (x1 (x1 (x1 (x1 (x1 (x1 (x1 (x1 (x1 (x1 (xh)))))))))))))))))))))))) rfl
theorem mw_1666 : (Jvm.Cond.instanceMethod ({ cls := "ScaleShopModel", name := "inside", desc := "(III)I" } : Jvm.MethodName)) ∈ ws0 := zm (tb_7 (x16 (x16 (x16 (x16 (x16 (x16 (x16 (x16 (xh)))))))))) rfl
theorem mw_1667 : (Jvm.Cond.selects "ScaleShopModel" ({ cls := "ScaleShopModel", name := "inside", desc := "(III)I" } : Jvm.MethodName) ({ cls := "ScaleShopModel", name := "inside", desc := "(III)I" } : Jvm.MethodName)) ∈ ws0 := zm (tb_7 (x16 (x16 (x16 (x16 (x16 (x16 (x16 (x16 (x1 (xh))))))))))) rfl
theorem mc_yX11_inside : (Cond.code yX11_inside cX11_inside 4 (some .int)) ∈ ws0 := zm (tb_7 (x16 (x16 (x16 (x16 (x16 (x16 (x16 (x16 (x1 (x1 (xh)))))))))))) rfl
theorem mw_1669 : (Jvm.Cond.methodLink "ScaleShopLaw" (96 : Nat) ({ cls := "ScaleShopModel", name := "side", desc := "(IIII)I" } : Jvm.MethodName)) ∈ ws0 := zm (tb_7 (x16 (x16 (x16 (x16 (x16 (x16 (x16 (x16 (x1 (x1 (x1 (xh))))))))))))) rfl
theorem mw_1670 : (Jvm.Cond.instanceMethod ({ cls := "ScaleShopModel", name := "side", desc := "(IIII)I" } : Jvm.MethodName)) ∈ ws0 := zm (tb_7 (x16 (x16 (x16 (x16 (x16 (x16 (x16 (x16 (x1 (x1 (x1 (x1 (xh)))))))))))))) rfl
theorem mw_1671 : (Jvm.Cond.selects "ScaleShopModel" ({ cls := "ScaleShopModel", name := "side", desc := "(IIII)I" } : Jvm.MethodName) ({ cls := "ScaleShopModel", name := "side", desc := "(IIII)I" } : Jvm.MethodName)) ∈ ws0 := zm (tb_7 (x16 (x16 (x16 (x16 (x16 (x16 (x16 (x16 (x1 (x1 (x1 (x1 (x1 (xh))))))))))))))) rfl
theorem mc_yX11_side : (Cond.code yX11_side cX11_side 6 (some .int)) ∈ ws0 := zm (tb_7 (x16 (x16 (x16 (x16 (x16 (x16 (x16 (x16 (x1 (x1 (x1 (x1 (x1 (x1 (xh)))))))))))))))) rfl
theorem mw_1673 : (Jvm.Cond.methodLink "ScaleShopLaw" (101 : Nat) ({ cls := "ScaleShopModel", name := "near", desc := "(III)J" } : Jvm.MethodName)) ∈ ws0 := zm (tb_7 (x16 (x16 (x16 (x16 (x16 (x16 (x16 (x16 (x1 (x1 (x1 (x1 (x1 (x1 (x1 (xh))))))))))))))))) rfl
theorem mw_1674 : (Jvm.Cond.instanceMethod ({ cls := "ScaleShopModel", name := "near", desc := "(III)J" } : Jvm.MethodName)) ∈ ws0 := zm (tb_7 (x16 (x16 (x16 (x16 (x16 (x16 (x16 (x16 (x1 (x1 (x1 (x1 (x1 (x1 (x1 (x1 (xh)))))))))))))))))) rfl
theorem mw_1675 : (Jvm.Cond.selects "ScaleShopModel" ({ cls := "ScaleShopModel", name := "near", desc := "(III)J" } : Jvm.MethodName) ({ cls := "ScaleShopModel", name := "near", desc := "(III)J" } : Jvm.MethodName)) ∈ ws0 := zm (tb_7 (x16 (x16 (x16 (x16 (x16 (x16 (x16 (x16 (x1 (x1 (x1 (x1 (x1 (x1 (x1 (x1 (x1 (xh))))))))))))))))))) rfl
theorem mc_yX11_near : (Cond.code yX11_near cX11_near 4 (some .long)) ∈ ws0 := zm (tb_7 (x16 (x16 (x16 (x16 (x16 (x16 (x16 (x16 (x1 (x1 (x1 (x1 (x1 (x1 (x1 (x1 (x1 (x1 (xh)))))))))))))))))))) rfl
theorem mw_1677 : (Jvm.Cond.methodLink "ScaleShopLaw" (105 : Nat) ({ cls := "ScaleShopModel", name := "clashes", desc := "(I)I" } : Jvm.MethodName)) ∈ ws0 := zm (tb_7 (x16 (x16 (x16 (x16 (x16 (x16 (x16 (x16 (x1 (x1 (x1 (x1 (x1 (x1 (x1 (x1 (x1 (x1 (x1 (xh))))))))))))))))))))) rfl
theorem mw_1678 : (Jvm.Cond.instanceMethod ({ cls := "ScaleShopModel", name := "clashes", desc := "(I)I" } : Jvm.MethodName)) ∈ ws0 := zm (tb_7 (x16 (x16 (x16 (x16 (x16 (x16 (x16 (x16 (x1 (x1 (x1 (x1 (x1 (x1 (x1 (x1 (x1 (x1 (x1 (x1 (xh)))))))))))))))))))))) rfl
theorem mw_1679 : (Jvm.Cond.selects "ScaleShopModel" ({ cls := "ScaleShopModel", name := "clashes", desc := "(I)I" } : Jvm.MethodName) ({ cls := "ScaleShopModel", name := "clashes", desc := "(I)I" } : Jvm.MethodName)) ∈ ws0 := zm (tb_7 (x16 (x16 (x16 (x16 (x16 (x16 (x16 (x16 (x1 (x1 (x1 (x1 (x1 (x1 (x1 (x1 (x1 (x1 (x1 (x1 (x1 (xh))))))))))))))))))))))) rfl
theorem mc_yX11_clashes : (Cond.code yX11_clashes cX11_clashes 5 (some .int)) ∈ ws0 := zm (tb_7 (x16 (x16 (x16 (x16 (x16 (x16 (x16 (x16 (x1 (x1 (x1 (x1 (x1 (x1 (x1 (x1 (x1 (x1 (x1 (x1 (x1 (x1 (xh)))))))))))))))))))))))) rfl
theorem mw_1681 : (Jvm.Cond.methodLink "ScaleShopModel" (424 : Nat) ({ cls := "ScaleShopModel", name := "isClash", desc := "(III)Z" } : Jvm.MethodName)) ∈ ws0 := zm (tb_7 (x16 (x16 (x16 (x16 (x16 (x16 (x16 (x16 (x1 (x1 (x1 (x1 (x1 (x1 (x1 (x1 (x1 (x1 (x1 (x1 (x1 (x1 (x1 (xh))))))))))))))))))))))))) rfl
theorem mw_1683 : (Jvm.Cond.instanceMethod ({ cls := "ScaleShopModel", name := "isClash", desc := "(III)Z" } : Jvm.MethodName)) ∈ ws0 := zm (tb_7 (x16 (x16 (x16 (x16 (x16 (x16 (x16 (x16 (x16 (x1 (xh)))))))))))) rfl
theorem mc_yX11_isClash : (Cond.code yX11_isClash cX11_isClash 6 (some .boolean)) ∈ ws0 := zm (tb_7 (x16 (x16 (x16 (x16 (x16 (x16 (x16 (x16 (x16 (x1 (x1 (xh))))))))))))) rfl
theorem mw_1685 : (Jvm.Cond.constantLong "ScaleShopModel" (422 : Nat) (4 : Int64)) ∈ ws0 := zm (tb_7 (x16 (x16 (x16 (x16 (x16 (x16 (x16 (x16 (x16 (x1 (x1 (x1 (xh)))))))))))))) rfl
theorem mw_1686 : (Jvm.Cond.methodLink "ScaleShopLaw" (109 : Nat) ({ cls := "ScaleShopModel", name := "clash", desc := "(III)I" } : Jvm.MethodName)) ∈ ws0 := zm (tb_7 (x16 (x16 (x16 (x16 (x16 (x16 (x16 (x16 (x16 (x1 (x1 (x1 (x1 (xh))))))))))))))) rfl
theorem mw_1687 : (Jvm.Cond.instanceMethod ({ cls := "ScaleShopModel", name := "clash", desc := "(III)I" } : Jvm.MethodName)) ∈ ws0 := zm (tb_7 (x16 (x16 (x16 (x16 (x16 (x16 (x16 (x16 (x16 (x1 (x1 (x1 (x1 (x1 (xh)))))))))))))))) rfl
theorem mw_1688 : (Jvm.Cond.selects "ScaleShopModel" ({ cls := "ScaleShopModel", name := "clash", desc := "(III)I" } : Jvm.MethodName) ({ cls := "ScaleShopModel", name := "clash", desc := "(III)I" } : Jvm.MethodName)) ∈ ws0 := zm (tb_7 (x16 (x16 (x16 (x16 (x16 (x16 (x16 (x16 (x16 (x1 (x1 (x1 (x1 (x1 (x1 (xh))))))))))))))))) rfl
theorem mc_yX11_clash : (Cond.code yX11_clash cX11_clash 7 (some .int)) ∈ ws0 := zm (tb_7 (x16 (x16 (x16 (x16 (x16 (x16 (x16 (x16 (x16 (x1 (x1 (x1 (x1 (x1 (x1 (x1 (xh)))))))))))))))))) rfl
theorem mw_1690 : (Jvm.Cond.methodLink "ScaleShopLaw" (114 : Nat) ({ cls := "ScaleShopModel", name := "far", desc := "(II)J" } : Jvm.MethodName)) ∈ ws0 := zm (tb_7 (x16 (x16 (x16 (x16 (x16 (x16 (x16 (x16 (x16 (x1 (x1 (x1 (x1 (x1 (x1 (x1 (x1 (xh))))))))))))))))))) rfl
theorem mw_1691 : (Jvm.Cond.instanceMethod ({ cls := "ScaleShopModel", name := "far", desc := "(II)J" } : Jvm.MethodName)) ∈ ws0 := zm (tb_7 (x16 (x16 (x16 (x16 (x16 (x16 (x16 (x16 (x16 (x1 (x1 (x1 (x1 (x1 (x1 (x1 (x1 (x1 (xh)))))))))))))))))))) rfl
theorem mw_1692 : (Jvm.Cond.selects "ScaleShopModel" ({ cls := "ScaleShopModel", name := "far", desc := "(II)J" } : Jvm.MethodName) ({ cls := "ScaleShopModel", name := "far", desc := "(II)J" } : Jvm.MethodName)) ∈ ws0 := zm (tb_7 (x16 (x16 (x16 (x16 (x16 (x16 (x16 (x16 (x16 (x1 (x1 (x1 (x1 (x1 (x1 (x1 (x1 (x1 (x1 (xh))))))))))))))))))))) rfl
theorem mc_yX11_far : (Cond.code yX11_far cX11_far 9 (some .long)) ∈ ws0 := zm (tb_7 (x16 (x16 (x16 (x16 (x16 (x16 (x16 (x16 (x16 (x1 (x1 (x1 (x1 (x1 (x1 (x1 (x1 (x1 (x1 (x1 (xh)))))))))))))))))))))) rfl
theorem mw_1694 : (Jvm.Cond.methodLink "ScaleShopLaw" (119 : Nat) ({ cls := "ScaleShopModel", name := "size", desc := "(I)J" } : Jvm.MethodName)) ∈ ws0 := zm (tb_7 (x16 (x16 (x16 (x16 (x16 (x16 (x16 (x16 (x16 (x1 (x1 (x1 (x1 (x1 (x1 (x1 (x1 (x1 (x1 (x1 (x1 (xh))))))))))))))))))))))) rfl
theorem mw_1695 : (Jvm.Cond.instanceMethod ({ cls := "ScaleShopModel", name := "size", desc := "(I)J" } : Jvm.MethodName)) ∈ ws0 := zm (tb_7 (x16 (x16 (x16 (x16 (x16 (x16 (x16 (x16 (x16 (x1 (x1 (x1 (x1 (x1 (x1 (x1 (x1 (x1 (x1 (x1 (x1 (x1 (xh)))))))))))))))))))))))) rfl
theorem mw_1696 : (Jvm.Cond.selects "ScaleShopModel" ({ cls := "ScaleShopModel", name := "size", desc := "(I)J" } : Jvm.MethodName) ({ cls := "ScaleShopModel", name := "size", desc := "(I)J" } : Jvm.MethodName)) ∈ ws0 := zm (tb_7 (x16 (x16 (x16 (x16 (x16 (x16 (x16 (x16 (x16 (x1 (x1 (x1 (x1 (x1 (x1 (x1 (x1 (x1 (x1 (x1 (x1 (x1 (x1 (xh))))))))))))))))))))))))) rfl
theorem mc_yX11_size : (Cond.code yX11_size cX11_size 2 (some .long)) ∈ ws0 := zm (tb_7 (x16 (x16 (x16 (x16 (x16 (x16 (x16 (x16 (x16 (x1 (x1 (x1 (x1 (x1 (x1 (x1 (x1 (x1 (x1 (x1 (x1 (x1 (x1 (x1 (xh)))))))))))))))))))))))))) rfl
theorem mw_1698 : (Jvm.Cond.methodLink "ScaleShopLaw" (123 : Nat) ({ cls := "ScaleShopModel", name := "at", desc := "(III)I" } : Jvm.MethodName)) ∈ ws0 := zm (tb_7 (x16 (x16 (x16 (x16 (x16 (x16 (x16 (x16 (x16 (x16 (xh)))))))))))) rfl
theorem mw_1699 : (Jvm.Cond.instanceMethod ({ cls := "ScaleShopModel", name := "at", desc := "(III)I" } : Jvm.MethodName)) ∈ ws0 := zm (tb_7 (x16 (x16 (x16 (x16 (x16 (x16 (x16 (x16 (x16 (x16 (x1 (xh))))))))))))) rfl
theorem mw_1700 : (Jvm.Cond.selects "ScaleShopModel" ({ cls := "ScaleShopModel", name := "at", desc := "(III)I" } : Jvm.MethodName) ({ cls := "ScaleShopModel", name := "at", desc := "(III)I" } : Jvm.MethodName)) ∈ ws0 := zm (tb_7 (x16 (x16 (x16 (x16 (x16 (x16 (x16 (x16 (x16 (x16 (x1 (x1 (xh)))))))))))))) rfl
theorem mc_yX11_at : (Cond.code yX11_at cX11_at 4 (some .int)) ∈ ws0 := zm (tb_7 (x16 (x16 (x16 (x16 (x16 (x16 (x16 (x16 (x16 (x16 (x1 (x1 (x1 (xh))))))))))))))) rfl
theorem mw_1702 : (Jvm.Cond.methodLink "ScaleShopLaw" (127 : Nat) ({ cls := "ScaleShopModel", name := "told", desc := "(II)I" } : Jvm.MethodName)) ∈ ws0 := zm (tb_7 (x16 (x16 (x16 (x16 (x16 (x16 (x16 (x16 (x16 (x16 (x1 (x1 (x1 (x1 (xh)))))))))))))))) rfl
theorem mw_1703 : (Jvm.Cond.instanceMethod ({ cls := "ScaleShopModel", name := "told", desc := "(II)I" } : Jvm.MethodName)) ∈ ws0 := zm (tb_7 (x16 (x16 (x16 (x16 (x16 (x16 (x16 (x16 (x16 (x16 (x1 (x1 (x1 (x1 (x1 (xh))))))))))))))))) rfl
theorem mw_1704 : (Jvm.Cond.selects "ScaleShopModel" ({ cls := "ScaleShopModel", name := "told", desc := "(II)I" } : Jvm.MethodName) ({ cls := "ScaleShopModel", name := "told", desc := "(II)I" } : Jvm.MethodName)) ∈ ws0 := zm (tb_7 (x16 (x16 (x16 (x16 (x16 (x16 (x16 (x16 (x16 (x16 (x1 (x1 (x1 (x1 (x1 (x1 (xh)))))))))))))))))) rfl
theorem mc_yX11_told : (Cond.code yX11_told cX11_told 3 (some .int)) ∈ ws0 := zm (tb_7 (x16 (x16 (x16 (x16 (x16 (x16 (x16 (x16 (x16 (x16 (x1 (x1 (x1 (x1 (x1 (x1 (x1 (xh))))))))))))))))))) rfl
theorem mw_1706 : (Jvm.Cond.methodLink "ScaleShopLaw" (131 : Nat) ({ cls := "ScaleShopModel", name := "step", desc := "(II)I" } : Jvm.MethodName)) ∈ ws0 := zm (tb_7 (x16 (x16 (x16 (x16 (x16 (x16 (x16 (x16 (x16 (x16 (x1 (x1 (x1 (x1 (x1 (x1 (x1 (x1 (xh)))))))))))))))))))) rfl
theorem mw_1707 : (Jvm.Cond.instanceMethod ({ cls := "ScaleShopModel", name := "step", desc := "(II)I" } : Jvm.MethodName)) ∈ ws0 := zm (tb_7 (x16 (x16 (x16 (x16 (x16 (x16 (x16 (x16 (x16 (x16 (x1 (x1 (x1 (x1 (x1 (x1 (x1 (x1 (x1 (xh))))))))))))))))))))) rfl
theorem mw_1708 : (Jvm.Cond.selects "ScaleShopModel" ({ cls := "ScaleShopModel", name := "step", desc := "(II)I" } : Jvm.MethodName) ({ cls := "ScaleShopModel", name := "step", desc := "(II)I" } : Jvm.MethodName)) ∈ ws0 := zm (tb_7 (x16 (x16 (x16 (x16 (x16 (x16 (x16 (x16 (x16 (x16 (x1 (x1 (x1 (x1 (x1 (x1 (x1 (x1 (x1 (x1 (xh)))))))))))))))))))))) rfl
theorem mc_yX11_step : (Cond.code yX11_step cX11_step 3 (some .int)) ∈ ws0 := zm (tb_7 (x16 (x16 (x16 (x16 (x16 (x16 (x16 (x16 (x16 (x16 (x1 (x1 (x1 (x1 (x1 (x1 (x1 (x1 (x1 (x1 (x1 (xh))))))))))))))))))))))) rfl
theorem mw_1710 : (Jvm.Cond.methodLink "ScaleShopLaw" (135 : Nat) ({ cls := "ScaleShopModel", name := "count", desc := "(I)I" } : Jvm.MethodName)) ∈ ws0 := zm (tb_7 (x16 (x16 (x16 (x16 (x16 (x16 (x16 (x16 (x16 (x16 (x1 (x1 (x1 (x1 (x1 (x1 (x1 (x1 (x1 (x1 (x1 (x1 (xh)))))))))))))))))))))))) rfl
theorem mw_1711 : (Jvm.Cond.instanceMethod ({ cls := "ScaleShopModel", name := "count", desc := "(I)I" } : Jvm.MethodName)) ∈ ws0 := zm (tb_7 (x16 (x16 (x16 (x16 (x16 (x16 (x16 (x16 (x16 (x16 (x1 (x1 (x1 (x1 (x1 (x1 (x1 (x1 (x1 (x1 (x1 (x1 (x1 (xh))))))))))))))))))))))))) rfl
theorem mw_1712 : (Jvm.Cond.selects "ScaleShopModel" ({ cls := "ScaleShopModel", name := "count", desc := "(I)I" } : Jvm.MethodName) ({ cls := "ScaleShopModel", name := "count", desc := "(I)I" } : Jvm.MethodName)) ∈ ws0 := zm (tb_7 (x16 (x16 (x16 (x16 (x16 (x16 (x16 (x16 (x16 (x16 (x1 (x1 (x1 (x1 (x1 (x1 (x1 (x1 (x1 (x1 (x1 (x1 (x1 (x1 (xh)))))))))))))))))))))))))) rfl
theorem mc_yX11_count : (Cond.code yX11_count cX11_count 7 (some .int)) ∈ ws0 := zm (tb_7 (x16 (x16 (x16 (x16 (x16 (x16 (x16 (x16 (x16 (x16 (x1 (x1 (x1 (x1 (x1 (x1 (x1 (x1 (x1 (x1 (x1 (x1 (x1 (x1 (x1 (xh))))))))))))))))))))))))))) rfl
theorem mw_1714 : (Jvm.Cond.methodLink "ScaleShopLaw" (139 : Nat) ({ cls := "ScaleShopModel", name := "status", desc := "()I" } : Jvm.MethodName)) ∈ ws0 := zm (tb_7 (x16 (x16 (x16 (x16 (x16 (x16 (x16 (x16 (x16 (x16 (x16 (xh))))))))))))) rfl
theorem mw_1715 : (Jvm.Cond.instanceMethod ({ cls := "ScaleShopModel", name := "status", desc := "()I" } : Jvm.MethodName)) ∈ ws0 := zm (tb_7 (x16 (x16 (x16 (x16 (x16 (x16 (x16 (x16 (x16 (x16 (x16 (x1 (xh)))))))))))))) rfl
theorem mw_1716 : (Jvm.Cond.selects "ScaleShopModel" ({ cls := "ScaleShopModel", name := "status", desc := "()I" } : Jvm.MethodName) ({ cls := "ScaleShopModel", name := "status", desc := "()I" } : Jvm.MethodName)) ∈ ws0 := zm (tb_7 (x16 (x16 (x16 (x16 (x16 (x16 (x16 (x16 (x16 (x16 (x16 (x1 (x1 (xh))))))))))))))) rfl
theorem mc_yX11_status : (Cond.code yX11_status cX11_status 1 (some .int)) ∈ ws0 := zm (tb_7 (x16 (x16 (x16 (x16 (x16 (x16 (x16 (x16 (x16 (x16 (x16 (x1 (x1 (x1 (xh)))))))))))))))) rfl
theorem mw_0 : (Cond.selects "ScaleShop" ({ cls := "ScaleShop", name := "refuse", desc := "(I)I" } : MethodName) ({ cls := "ScaleShop", name := "refuse", desc := "(I)I" } : MethodName)) ∈ ws0 := zz_m 0 (by decide +kernel) (by decide +kernel)
theorem mw_1 : (Cond.selects "ScaleShop" ({ cls := "ScaleShop", name := "seal", desc := "()Z" } : MethodName) ({ cls := "ScaleShop", name := "seal", desc := "()Z" } : MethodName)) ∈ ws0 := zz_m 1 (by decide +kernel) (by decide +kernel)
theorem mw_2 : (Cond.selects "ScaleShop" ({ cls := "ScaleShop", name := "forgetUndone", desc := "()V" } : MethodName) ({ cls := "ScaleShop", name := "forgetUndone", desc := "()V" } : MethodName)) ∈ ws0 := zz_m 2 (by decide +kernel) (by decide +kernel)
theorem mw_3 : (Cond.selects "java/util/ArrayList" ({ cls := "java/util/ArrayList", name := "fastRemove", desc := "([Ljava/lang/Object;I)V" } : MethodName) ({ cls := "java/util/ArrayList", name := "fastRemove", desc := "([Ljava/lang/Object;I)V" } : MethodName)) ∈ ws0 := zz_m 3 (by decide +kernel) (by decide +kernel)
theorem mw_4 : (Cond.selects "ScaleShop" ({ cls := "ScaleShop", name := "deny", desc := "(I)Z" } : MethodName) ({ cls := "ScaleShop", name := "deny", desc := "(I)Z" } : MethodName)) ∈ ws0 := zz_m 4 (by decide +kernel) (by decide +kernel)
theorem mw_5 : (Cond.selects "ScaleShop$Row" ({ cls := "ScaleShop$Row", name := "foldsBack", desc := "(I)Z" } : MethodName) ({ cls := "ScaleShop$Row", name := "foldsBack", desc := "(I)Z" } : MethodName)) ∈ ws0 := zz_m 5 (by decide +kernel) (by decide +kernel)
theorem mw_6 : (Cond.selects "ScaleShop$Row" ({ cls := "ScaleShop$Row", name := "hasRightAngles", desc := "()Z" } : MethodName) ({ cls := "ScaleShop$Row", name := "hasRightAngles", desc := "()Z" } : MethodName)) ∈ ws0 := zz_m 6 (by decide +kernel) (by decide +kernel)
theorem mw_7 : (Cond.selects "ScaleShop" ({ cls := "ScaleShop", name := "thin", desc := "(LScaleShop$Feature;I)I" } : MethodName) ({ cls := "ScaleShop", name := "thin", desc := "(LScaleShop$Feature;I)I" } : MethodName)) ∈ ws0 := zz_m 7 (by decide +kernel) (by decide +kernel)
theorem mw_8 : (Cond.selects "ScaleShop$Law" ({ cls := "ScaleShop$Law", name := "leastArea", desc := "(II)I" } : MethodName) ({ cls := "ScaleShop$Law", name := "leastArea", desc := "(II)I" } : MethodName)) ∈ ws0 := zz_m 8 (by decide +kernel) (by decide +kernel)
theorem mw_9 : (Cond.selects "ScaleShop$Law" ({ cls := "ScaleShop$Law", name := "isBare", desc := "(LScaleShop$Sheet;LScaleShop$Feature;II)Z" } : MethodName) ({ cls := "ScaleShop$Law", name := "isBare", desc := "(LScaleShop$Sheet;LScaleShop$Feature;II)Z" } : MethodName)) ∈ ws0 := zz_m 9 (by decide +kernel) (by decide +kernel)
theorem mw_10 : (Cond.selects "ScaleShop$Law" ({ cls := "ScaleShop$Law", name := "measureReach", desc := "(LScaleShop$Row;I)V" } : MethodName) ({ cls := "ScaleShop$Law", name := "measureReach", desc := "(LScaleShop$Row;I)V" } : MethodName)) ∈ ws0 := zz_m 10 (by decide +kernel) (by decide +kernel)
theorem mw_11 : (Cond.selects "ScaleShop$Law" ({ cls := "ScaleShop$Law", name := "isAsBefore", desc := "(LScaleShop$Row;LScaleShop$Row;I)Z" } : MethodName) ({ cls := "ScaleShop$Law", name := "isAsBefore", desc := "(LScaleShop$Row;LScaleShop$Row;I)Z" } : MethodName)) ∈ ws0 := zz_m 11 (by decide +kernel) (by decide +kernel)
theorem mw_12 : (Cond.selects "ScaleShop$Law" ({ cls := "ScaleShop$Law", name := "holdsAsBefore", desc := "(LScaleShop$Row;LScaleShop$Row;)Z" } : MethodName) ({ cls := "ScaleShop$Law", name := "holdsAsBefore", desc := "(LScaleShop$Row;LScaleShop$Row;)Z" } : MethodName)) ∈ ws0 := zz_m 12 (by decide +kernel) (by decide +kernel)
theorem mw_13 : (Cond.selects "ScaleShop$Law" ({ cls := "ScaleShop$Law", name := "isWayFree", desc := "(LScaleShop$Row;LScaleShop$Row;)Z" } : MethodName) ({ cls := "ScaleShop$Law", name := "isWayFree", desc := "(LScaleShop$Row;LScaleShop$Row;)Z" } : MethodName)) ∈ ws0 := zz_m 13 (by decide +kernel) (by decide +kernel)
theorem mw_14 : (Cond.selects "ScaleShop$Law" ({ cls := "ScaleShop$Law", name := "leadsTo", desc := "(II)Z" } : MethodName) ({ cls := "ScaleShop$Law", name := "leadsTo", desc := "(II)Z" } : MethodName)) ∈ ws0 := zz_m 14 (by decide +kernel) (by decide +kernel)
theorem mw_15 : (Cond.selects "ScaleShop$Law" ({ cls := "ScaleShop$Law", name := "isSweptByMove", desc := "(LScaleShop$Row;LScaleShop$Row;)Z" } : MethodName) ({ cls := "ScaleShop$Law", name := "isSweptByMove", desc := "(LScaleShop$Row;LScaleShop$Row;)Z" } : MethodName)) ∈ ws0 := zz_m 15 (by decide +kernel) (by decide +kernel)
theorem mw_16 : (Cond.selects "ScaleShop$Law" ({ cls := "ScaleShop$Law", name := "setTriangle", desc := "(LScaleShop$Row;ILScaleShop$Row;ILScaleShop$Row;I)V" } : MethodName) ({ cls := "ScaleShop$Law", name := "setTriangle", desc := "(LScaleShop$Row;ILScaleShop$Row;ILScaleShop$Row;I)V" } : MethodName)) ∈ ws0 := zz_m 16 (by decide +kernel) (by decide +kernel)
theorem mw_17 : (Cond.selects "ScaleShop$Law" ({ cls := "ScaleShop$Law", name := "holdsCorner", desc := "(LScaleShop$Row;LScaleShop$Row;ILScaleShop$Row;I)Z" } : MethodName) ({ cls := "ScaleShop$Law", name := "holdsCorner", desc := "(LScaleShop$Row;LScaleShop$Row;ILScaleShop$Row;I)Z" } : MethodName)) ∈ ws0 := zz_m 17 (by decide +kernel) (by decide +kernel)
theorem mw_18 : (Cond.selects "ScaleShop$Law" ({ cls := "ScaleShop$Law", name := "isSweptByCut", desc := "(LScaleShop$Row;LScaleShop$Row;I)Z" } : MethodName) ({ cls := "ScaleShop$Law", name := "isSweptByCut", desc := "(LScaleShop$Row;LScaleShop$Row;I)Z" } : MethodName)) ∈ ws0 := zz_m 18 (by decide +kernel) (by decide +kernel)
theorem mw_19 : (Cond.selects "ScaleShop$Feature" ({ cls := "ScaleShop$Feature", name := "keepFormer", desc := "()V" } : MethodName) ({ cls := "ScaleShop$Feature", name := "keepFormer", desc := "()V" } : MethodName)) ∈ ws0 := zz_m 19 (by decide +kernel) (by decide +kernel)
theorem mw_20 : (Cond.selects "ScaleShop" ({ cls := "ScaleShop", name := "book", desc := "(IIILScaleShop$Feature;)Z" } : MethodName) ({ cls := "ScaleShop", name := "book", desc := "(IIILScaleShop$Feature;)Z" } : MethodName)) ∈ ws0 := zz_m 20 (by decide +kernel) (by decide +kernel)
theorem mw_21 : (Cond.selects "java/util/ArrayList" ({ cls := "java/util/ArrayList", name := "add", desc := "(Ljava/lang/Object;[Ljava/lang/Object;I)V" } : MethodName) ({ cls := "java/util/ArrayList", name := "add", desc := "(Ljava/lang/Object;[Ljava/lang/Object;I)V" } : MethodName)) ∈ ws0 := zz_m 21 (by decide +kernel) (by decide +kernel)
theorem mw_22 : (Cond.selects "java/util/ArrayList" ({ cls := "java/util/ArrayList", name := "grow", desc := "()[Ljava/lang/Object;" } : MethodName) ({ cls := "java/util/ArrayList", name := "grow", desc := "()[Ljava/lang/Object;" } : MethodName)) ∈ ws0 := zz_m 22 (by decide +kernel) (by decide +kernel)
theorem mw_23 : (Cond.selects "java/util/ArrayList" ({ cls := "java/util/ArrayList", name := "grow", desc := "(I)[Ljava/lang/Object;" } : MethodName) ({ cls := "java/util/ArrayList", name := "grow", desc := "(I)[Ljava/lang/Object;" } : MethodName)) ∈ ws0 := zz_m 23 (by decide +kernel) (by decide +kernel)
theorem mw_24 : (Cond.selects "ScaleShop" ({ cls := "ScaleShop", name := "moveTo", desc := "(LScaleShop$Feature;II)Z" } : MethodName) ({ cls := "ScaleShop", name := "moveTo", desc := "(LScaleShop$Feature;II)Z" } : MethodName)) ∈ ws0 := zz_m 24 (by decide +kernel) (by decide +kernel)
theorem mw_25 : (Cond.selects "ScaleShop$Fraction" ({ cls := "ScaleShop$Fraction", name := "offerPart", desc := "(IILScaleShop$Row;I)V" } : MethodName) ({ cls := "ScaleShop$Fraction", name := "offerPart", desc := "(IILScaleShop$Row;I)V" } : MethodName)) ∈ ws0 := zz_m 25 (by decide +kernel) (by decide +kernel)
theorem mw_26 : (Cond.selects "ScaleShop" ({ cls := "ScaleShop", name := "unite", desc := "(LScaleShop$Feature;LScaleShop$Feature;II)I" } : MethodName) ({ cls := "ScaleShop", name := "unite", desc := "(LScaleShop$Feature;LScaleShop$Feature;II)I" } : MethodName)) ∈ ws0 := zz_m 26 (by decide +kernel) (by decide +kernel)
theorem mw_27 : (Cond.selects "ScaleShop" ({ cls := "ScaleShop", name := "isSmallHouse", desc := "(II)Z" } : MethodName) ({ cls := "ScaleShop", name := "isSmallHouse", desc := "(II)Z" } : MethodName)) ∈ ws0 := zz_m 27 (by decide +kernel) (by decide +kernel)
theorem mw_28 : (Cond.selects "ScaleShop" ({ cls := "ScaleShop", name := "rankInTown", desc := "(I)I" } : MethodName) ({ cls := "ScaleShop", name := "rankInTown", desc := "(I)I" } : MethodName)) ∈ ws0 := zz_m 28 (by decide +kernel) (by decide +kernel)
theorem mw_29 : (Cond.selects "ScaleShop$Roads" ({ cls := "ScaleShop$Roads", name := "insert", desc := "(LScaleShop$Feature;I)V" } : MethodName) ({ cls := "ScaleShop$Roads", name := "insert", desc := "(LScaleShop$Feature;I)V" } : MethodName)) ∈ ws0 := zz_m 29 (by decide +kernel) (by decide +kernel)
theorem mw_30 : (Cond.selects "ScaleShop$Roads" ({ cls := "ScaleShop$Roads", name := "setEnd", desc := "(III)V" } : MethodName) ({ cls := "ScaleShop$Roads", name := "setEnd", desc := "(III)V" } : MethodName)) ∈ ws0 := zz_m 30 (by decide +kernel) (by decide +kernel)
theorem mw_31 : (Cond.selects "ScaleShop$Roads" ({ cls := "ScaleShop$Roads", name := "uniteGroups", desc := "(II)V" } : MethodName) ({ cls := "ScaleShop$Roads", name := "uniteGroups", desc := "(II)V" } : MethodName)) ∈ ws0 := zz_m 31 (by decide +kernel) (by decide +kernel)
theorem mw_32 : (Cond.selects "ScaleShop" ({ cls := "ScaleShop", name := "nextClash", desc := "(II)I" } : MethodName) ({ cls := "ScaleShop", name := "nextClash", desc := "(II)I" } : MethodName)) ∈ ws0 := zz_m 32 (by decide +kernel) (by decide +kernel)
theorem mw_33 : (Cond.selects "ScaleShop" ({ cls := "ScaleShop", name := "isClash", desc := "(III)Z" } : MethodName) ({ cls := "ScaleShop", name := "isClash", desc := "(III)Z" } : MethodName)) ∈ ws0 := zz_m 33 (by decide +kernel) (by decide +kernel)
theorem mw_34 : (Cond.selects "ScaleShopModel" ({ cls := "ScaleShopModel", name := "refuse", desc := "(I)I" } : MethodName) ({ cls := "ScaleShopModel", name := "refuse", desc := "(I)I" } : MethodName)) ∈ ws0 := zz_m 34 (by decide +kernel) (by decide +kernel)
theorem mw_35 : (Cond.selects "ScaleShopModel" ({ cls := "ScaleShopModel", name := "begin", desc := "(IIIII)V" } : MethodName) ({ cls := "ScaleShopModel", name := "begin", desc := "(IIIII)V" } : MethodName)) ∈ ws0 := zz_m 35 (by decide +kernel) (by decide +kernel)
theorem mw_36 : (Cond.selects "ScaleShopModel" ({ cls := "ScaleShopModel", name := "settle", desc := "()V" } : MethodName) ({ cls := "ScaleShopModel", name := "settle", desc := "()V" } : MethodName)) ∈ ws0 := zz_m 36 (by decide +kernel) (by decide +kernel)
theorem mw_37 : (Cond.selects "ScaleShopModel" ({ cls := "ScaleShopModel", name := "isFeature", desc := "(I)Z" } : MethodName) ({ cls := "ScaleShopModel", name := "isFeature", desc := "(I)Z" } : MethodName)) ∈ ws0 := zz_m 37 (by decide +kernel) (by decide +kernel)
theorem mw_38 : (Cond.selects "ScaleShopModel" ({ cls := "ScaleShopModel", name := "no", desc := "(I)Z" } : MethodName) ({ cls := "ScaleShopModel", name := "no", desc := "(I)Z" } : MethodName)) ∈ ws0 := zz_m 38 (by decide +kernel) (by decide +kernel)
theorem mw_39 : (Cond.selects "ScaleShopModel" ({ cls := "ScaleShopModel", name := "isSimple", desc := "(I)Z" } : MethodName) ({ cls := "ScaleShopModel", name := "isSimple", desc := "(I)Z" } : MethodName)) ∈ ws0 := zz_m 39 (by decide +kernel) (by decide +kernel)
theorem mw_40 : (Cond.selects "ScaleShopModel" ({ cls := "ScaleShopModel", name := "isRing", desc := "(I)Z" } : MethodName) ({ cls := "ScaleShopModel", name := "isRing", desc := "(I)Z" } : MethodName)) ∈ ws0 := zz_m 40 (by decide +kernel) (by decide +kernel)
theorem mw_41 : (Cond.selects "ScaleShopModel" ({ cls := "ScaleShopModel", name := "edgesOf", desc := "(I)I" } : MethodName) ({ cls := "ScaleShopModel", name := "edgesOf", desc := "(I)I" } : MethodName)) ∈ ws0 := zz_m 41 (by decide +kernel) (by decide +kernel)
theorem mw_42 : (Cond.selects "ScaleShopModel" ({ cls := "ScaleShopModel", name := "edge", desc := "(III)V" } : MethodName) ({ cls := "ScaleShopModel", name := "edge", desc := "(III)V" } : MethodName)) ∈ ws0 := zz_m 42 (by decide +kernel) (by decide +kernel)
theorem mw_43 : (Cond.selects "ScaleShopModel" ({ cls := "ScaleShopModel", name := "folds", desc := "(III)Z" } : MethodName) ({ cls := "ScaleShopModel", name := "folds", desc := "(III)Z" } : MethodName)) ∈ ws0 := zz_m 43 (by decide +kernel) (by decide +kernel)
theorem mw_44 : (Cond.selects "ScaleShopModel" ({ cls := "ScaleShopModel", name := "meetsEdge", desc := "(III)Z" } : MethodName) ({ cls := "ScaleShopModel", name := "meetsEdge", desc := "(III)Z" } : MethodName)) ∈ ws0 := zz_m 44 (by decide +kernel) (by decide +kernel)
theorem mw_45 : (Cond.selects "ScaleShopModel" ({ cls := "ScaleShopModel", name := "isSquare", desc := "(I)Z" } : MethodName) ({ cls := "ScaleShopModel", name := "isSquare", desc := "(I)Z" } : MethodName)) ∈ ws0 := zz_m 45 (by decide +kernel) (by decide +kernel)
theorem mw_46 : (Cond.selects "ScaleShopModel" ({ cls := "ScaleShopModel", name := "wrong", desc := "(I)I" } : MethodName) ({ cls := "ScaleShopModel", name := "wrong", desc := "(I)I" } : MethodName)) ∈ ws0 := zz_m 46 (by decide +kernel) (by decide +kernel)
theorem mw_47 : (Cond.selects "ScaleShopModel" ({ cls := "ScaleShopModel", name := "isPlainable", desc := "(I)Z" } : MethodName) ({ cls := "ScaleShopModel", name := "isPlainable", desc := "(I)Z" } : MethodName)) ∈ ws0 := zz_m 47 (by decide +kernel) (by decide +kernel)
theorem mw_48 : (Cond.selects "ScaleShopModel" ({ cls := "ScaleShopModel", name := "tell", desc := "(III)I" } : MethodName) ({ cls := "ScaleShopModel", name := "tell", desc := "(III)I" } : MethodName)) ∈ ws0 := zz_m 48 (by decide +kernel) (by decide +kernel)
theorem mw_49 : (Cond.selects "ScaleShopModel" ({ cls := "ScaleShopModel", name := "begins", desc := "()V" } : MethodName) ({ cls := "ScaleShopModel", name := "begins", desc := "()V" } : MethodName)) ∈ ws0 := zz_m 49 (by decide +kernel) (by decide +kernel)
theorem mw_50 : (Cond.selects "ScaleShopModel" ({ cls := "ScaleShopModel", name := "keep", desc := "(I)V" } : MethodName) ({ cls := "ScaleShopModel", name := "keep", desc := "(I)V" } : MethodName)) ∈ ws0 := zz_m 50 (by decide +kernel) (by decide +kernel)
theorem mw_51 : (Cond.selects "ScaleShopModel" ({ cls := "ScaleShopModel", name := "write", desc := "(I)V" } : MethodName) ({ cls := "ScaleShopModel", name := "write", desc := "(I)V" } : MethodName)) ∈ ws0 := zz_m 51 (by decide +kernel) (by decide +kernel)
theorem mw_52 : (Cond.selects "ScaleShopModel" ({ cls := "ScaleShopModel", name := "plainAll", desc := "(III)I" } : MethodName) ({ cls := "ScaleShopModel", name := "plainAll", desc := "(III)I" } : MethodName)) ∈ ws0 := zz_m 52 (by decide +kernel) (by decide +kernel)
theorem mw_53 : (Cond.selects "ScaleShopModel" ({ cls := "ScaleShopModel", name := "plain", desc := "(IJI)Z" } : MethodName) ({ cls := "ScaleShopModel", name := "plain", desc := "(IJI)Z" } : MethodName)) ∈ ws0 := zz_m 53 (by decide +kernel) (by decide +kernel)
theorem mw_54 : (Cond.selects "ScaleShopModel" ({ cls := "ScaleShopModel", name := "mayGo", desc := "(II)Z" } : MethodName) ({ cls := "ScaleShopModel", name := "mayGo", desc := "(II)Z" } : MethodName)) ∈ ws0 := zz_m 54 (by decide +kernel) (by decide +kernel)
theorem mw_55 : (Cond.selects "ScaleShopModel" ({ cls := "ScaleShopModel", name := "isHeld", desc := "(III)Z" } : MethodName) ({ cls := "ScaleShopModel", name := "isHeld", desc := "(III)Z" } : MethodName)) ∈ ws0 := zz_m 55 (by decide +kernel) (by decide +kernel)
theorem mw_56 : (Cond.selects "ScaleShopModel" ({ cls := "ScaleShopModel", name := "is", desc := "(I)Z" } : MethodName) ({ cls := "ScaleShopModel", name := "is", desc := "(I)Z" } : MethodName)) ∈ ws0 := zz_m 56 (by decide +kernel) (by decide +kernel)
theorem mw_57 : (Cond.selects "ScaleShopModel" ({ cls := "ScaleShopModel", name := "isOnSet", desc := "(III)Z" } : MethodName) ({ cls := "ScaleShopModel", name := "isOnSet", desc := "(III)Z" } : MethodName)) ∈ ws0 := zz_m 57 (by decide +kernel) (by decide +kernel)
theorem mw_58 : (Cond.selects "ScaleShopModel" ({ cls := "ScaleShopModel", name := "triangle", desc := "(II)J" } : MethodName) ({ cls := "ScaleShopModel", name := "triangle", desc := "(II)J" } : MethodName)) ∈ ws0 := zz_m 58 (by decide +kernel) (by decide +kernel)
theorem mw_59 : (Cond.selects "ScaleShopModel" ({ cls := "ScaleShopModel", name := "goes", desc := "(II)Z" } : MethodName) ({ cls := "ScaleShopModel", name := "goes", desc := "(II)Z" } : MethodName)) ∈ ws0 := zz_m 59 (by decide +kernel) (by decide +kernel)
theorem mw_60 : (Cond.selects "ScaleShopModel" ({ cls := "ScaleShopModel", name := "remember", desc := "(I)V" } : MethodName) ({ cls := "ScaleShopModel", name := "remember", desc := "(I)V" } : MethodName)) ∈ ws0 := zz_m 60 (by decide +kernel) (by decide +kernel)
theorem mw_61 : (Cond.selects "ScaleShopModel" ({ cls := "ScaleShopModel", name := "isMet", desc := "(II)Z" } : MethodName) ({ cls := "ScaleShopModel", name := "isMet", desc := "(II)Z" } : MethodName)) ∈ ws0 := zz_m 61 (by decide +kernel) (by decide +kernel)
theorem mw_62 : (Cond.selects "ScaleShopModel" ({ cls := "ScaleShopModel", name := "isInside", desc := "(III)Z" } : MethodName) ({ cls := "ScaleShopModel", name := "isInside", desc := "(III)Z" } : MethodName)) ∈ ws0 := zz_m 62 (by decide +kernel) (by decide +kernel)
theorem mw_63 : (Cond.selects "ScaleShopModel" ({ cls := "ScaleShopModel", name := "isLawful", desc := "(III)Z" } : MethodName) ({ cls := "ScaleShopModel", name := "isLawful", desc := "(III)Z" } : MethodName)) ∈ ws0 := zz_m 63 (by decide +kernel) (by decide +kernel)
theorem mw_64 : (Cond.selects "ScaleShopModel" ({ cls := "ScaleShopModel", name := "arePlaces", desc := "(I)Z" } : MethodName) ({ cls := "ScaleShopModel", name := "arePlaces", desc := "(I)Z" } : MethodName)) ∈ ws0 := zz_m 64 (by decide +kernel) (by decide +kernel)
theorem mw_65 : (Cond.selects "ScaleShopModel" ({ cls := "ScaleShopModel", name := "isLawfulTo", desc := "(IIII)Z" } : MethodName) ({ cls := "ScaleShopModel", name := "isLawfulTo", desc := "(IIII)Z" } : MethodName)) ∈ ws0 := zz_m 65 (by decide +kernel) (by decide +kernel)
theorem mw_66 : (Cond.selects "ScaleShopModel" ({ cls := "ScaleShopModel", name := "isSweptBy", desc := "(III)Z" } : MethodName) ({ cls := "ScaleShopModel", name := "isSweptBy", desc := "(III)Z" } : MethodName)) ∈ ws0 := zz_m 66 (by decide +kernel) (by decide +kernel)
theorem mw_67 : (Cond.selects "ScaleShopModel" ({ cls := "ScaleShopModel", name := "isSwept", desc := "(III)Z" } : MethodName) ({ cls := "ScaleShopModel", name := "isSwept", desc := "(III)Z" } : MethodName)) ∈ ws0 := zz_m 67 (by decide +kernel) (by decide +kernel)
theorem mw_68 : (Cond.selects "ScaleShopModel" ({ cls := "ScaleShopModel", name := "take", desc := "(I)V" } : MethodName) ({ cls := "ScaleShopModel", name := "take", desc := "(I)V" } : MethodName)) ∈ ws0 := zz_m 68 (by decide +kernel) (by decide +kernel)
theorem mw_69 : (Cond.selects "ScaleShopModel" ({ cls := "ScaleShopModel", name := "isThree", desc := "(IIIIIII)Z" } : MethodName) ({ cls := "ScaleShopModel", name := "isThree", desc := "(IIIIIII)Z" } : MethodName)) ∈ ws0 := zz_m 69 (by decide +kernel) (by decide +kernel)
theorem mw_70 : (Cond.selects "ScaleShopModel" ({ cls := "ScaleShopModel", name := "isFreeWay", desc := "(II)Z" } : MethodName) ({ cls := "ScaleShopModel", name := "isFreeWay", desc := "(II)Z" } : MethodName)) ∈ ws0 := zz_m 70 (by decide +kernel) (by decide +kernel)
theorem mw_71 : (Cond.selects "ScaleShopModel" ({ cls := "ScaleShopModel", name := "isOnlyAt", desc := "(II)Z" } : MethodName) ({ cls := "ScaleShopModel", name := "isOnlyAt", desc := "(II)Z" } : MethodName)) ∈ ws0 := zz_m 71 (by decide +kernel) (by decide +kernel)
theorem mw_72 : (Cond.selects "ScaleShopModel" ({ cls := "ScaleShopModel", name := "isAhead", desc := "(IIII)Z" } : MethodName) ({ cls := "ScaleShopModel", name := "isAhead", desc := "(IIII)Z" } : MethodName)) ∈ ws0 := zz_m 72 (by decide +kernel) (by decide +kernel)
theorem mw_73 : (Cond.selects "ScaleShopModel" ({ cls := "ScaleShopModel", name := "forgetNew", desc := "(I)V" } : MethodName) ({ cls := "ScaleShopModel", name := "forgetNew", desc := "(I)V" } : MethodName)) ∈ ws0 := zz_m 73 (by decide +kernel) (by decide +kernel)
theorem mw_74 : (Cond.selects "ScaleShopModel" ({ cls := "ScaleShopModel", name := "lose", desc := "(IIII)V" } : MethodName) ({ cls := "ScaleShopModel", name := "lose", desc := "(IIII)V" } : MethodName)) ∈ ws0 := zz_m 74 (by decide +kernel) (by decide +kernel)
theorem mw_75 : (Cond.selects "ScaleShopModel" ({ cls := "ScaleShopModel", name := "squeeze", desc := "(I)V" } : MethodName) ({ cls := "ScaleShopModel", name := "squeeze", desc := "(I)V" } : MethodName)) ∈ ws0 := zz_m 75 (by decide +kernel) (by decide +kernel)
theorem mw_76 : (Cond.selects "ScaleShopModel" ({ cls := "ScaleShopModel", name := "ends", desc := "(III)I" } : MethodName) ({ cls := "ScaleShopModel", name := "ends", desc := "(III)I" } : MethodName)) ∈ ws0 := zz_m 76 (by decide +kernel) (by decide +kernel)
theorem mw_77 : (Cond.selects "ScaleShopModel" ({ cls := "ScaleShopModel", name := "moves", desc := "(I)Z" } : MethodName) ({ cls := "ScaleShopModel", name := "moves", desc := "(I)Z" } : MethodName)) ∈ ws0 := zz_m 77 (by decide +kernel) (by decide +kernel)
theorem mw_78 : (Cond.selects "ScaleShopModel" ({ cls := "ScaleShopModel", name := "changes", desc := "(II)Z" } : MethodName) ({ cls := "ScaleShopModel", name := "changes", desc := "(II)Z" } : MethodName)) ∈ ws0 := zz_m 78 (by decide +kernel) (by decide +kernel)
theorem mw_79 : (Cond.selects "ScaleShopModel" ({ cls := "ScaleShopModel", name := "give", desc := "(I)V" } : MethodName) ({ cls := "ScaleShopModel", name := "give", desc := "(I)V" } : MethodName)) ∈ ws0 := zz_m 79 (by decide +kernel) (by decide +kernel)
theorem mw_80 : (Cond.selects "ScaleShopModel" ({ cls := "ScaleShopModel", name := "wayOf", desc := "(III)I" } : MethodName) ({ cls := "ScaleShopModel", name := "wayOf", desc := "(III)I" } : MethodName)) ∈ ws0 := zz_m 80 (by decide +kernel) (by decide +kernel)
theorem mw_81 : (Cond.selects "ScaleShopModel" ({ cls := "ScaleShopModel", name := "box", desc := "(IZ)V" } : MethodName) ({ cls := "ScaleShopModel", name := "box", desc := "(IZ)V" } : MethodName)) ∈ ws0 := zz_m 81 (by decide +kernel) (by decide +kernel)
theorem mw_82 : (Cond.selects "ScaleShopModel" ({ cls := "ScaleShopModel", name := "area", desc := "(I)J" } : MethodName) ({ cls := "ScaleShopModel", name := "area", desc := "(I)J" } : MethodName)) ∈ ws0 := zz_m 82 (by decide +kernel) (by decide +kernel)
theorem mw_83 : (Cond.selects "ScaleShopModel" ({ cls := "ScaleShopModel", name := "layBox", desc := "(I)V" } : MethodName) ({ cls := "ScaleShopModel", name := "layBox", desc := "(I)V" } : MethodName)) ∈ ws0 := zz_m 83 (by decide +kernel) (by decide +kernel)
theorem mw_84 : (Cond.selects "ScaleShopModel" ({ cls := "ScaleShopModel", name := "distance", desc := "(II)V" } : MethodName) ({ cls := "ScaleShopModel", name := "distance", desc := "(II)V" } : MethodName)) ∈ ws0 := zz_m 84 (by decide +kernel) (by decide +kernel)
theorem mw_85 : (Cond.selects "ScaleShopModel" ({ cls := "ScaleShopModel", name := "nearer", desc := "([IIII)V" } : MethodName) ({ cls := "ScaleShopModel", name := "nearer", desc := "([IIII)V" } : MethodName)) ∈ ws0 := zz_m 85 (by decide +kernel) (by decide +kernel)
theorem mw_86 : (Cond.selects "ScaleShopModel" ({ cls := "ScaleShopModel", name := "isLess", desc := "(JJJJ)Z" } : MethodName) ({ cls := "ScaleShopModel", name := "isLess", desc := "(JJJJ)Z" } : MethodName)) ∈ ws0 := zz_m 86 (by decide +kernel) (by decide +kernel)
theorem mw_87 : (Cond.selects "ScaleShopModel" ({ cls := "ScaleShopModel", name := "plainFraction", desc := "()V" } : MethodName) ({ cls := "ScaleShopModel", name := "plainFraction", desc := "()V" } : MethodName)) ∈ ws0 := zz_m 87 (by decide +kernel) (by decide +kernel)
theorem mw_88 : (Cond.selects "ScaleShopModel" ({ cls := "ScaleShopModel", name := "gone", desc := "(II)V" } : MethodName) ({ cls := "ScaleShopModel", name := "gone", desc := "(II)V" } : MethodName)) ∈ ws0 := zz_m 88 (by decide +kernel) (by decide +kernel)
theorem mw_89 : (Cond.selects "ScaleShopModel" ({ cls := "ScaleShopModel", name := "isSmall", desc := "(II)Z" } : MethodName) ({ cls := "ScaleShopModel", name := "isSmall", desc := "(II)Z" } : MethodName)) ∈ ws0 := zz_m 89 (by decide +kernel) (by decide +kernel)
theorem mw_90 : (Cond.selects "ScaleShopModel" ({ cls := "ScaleShopModel", name := "dropMarked", desc := "(I)I" } : MethodName) ({ cls := "ScaleShopModel", name := "dropMarked", desc := "(I)I" } : MethodName)) ∈ ws0 := zz_m 90 (by decide +kernel) (by decide +kernel)
theorem mw_91 : (Cond.selects "ScaleShopModel" ({ cls := "ScaleShopModel", name := "isRoad", desc := "(I)Z" } : MethodName) ({ cls := "ScaleShopModel", name := "isRoad", desc := "(I)Z" } : MethodName)) ∈ ws0 := zz_m 91 (by decide +kernel) (by decide +kernel)
theorem mw_92 : (Cond.selects "ScaleShopModel" ({ cls := "ScaleShopModel", name := "weight", desc := "(I)J" } : MethodName) ({ cls := "ScaleShopModel", name := "weight", desc := "(I)J" } : MethodName)) ∈ ws0 := zz_m 92 (by decide +kernel) (by decide +kernel)
theorem mw_93 : (Cond.selects "ScaleShopModel" ({ cls := "ScaleShopModel", name := "lengthOf", desc := "(I)J" } : MethodName) ({ cls := "ScaleShopModel", name := "lengthOf", desc := "(I)J" } : MethodName)) ∈ ws0 := zz_m 93 (by decide +kernel) (by decide +kernel)
theorem mw_94 : (Cond.selects "ScaleShopModel" ({ cls := "ScaleShopModel", name := "placeOf", desc := "(II)I" } : MethodName) ({ cls := "ScaleShopModel", name := "placeOf", desc := "(II)I" } : MethodName)) ∈ ws0 := zz_m 94 (by decide +kernel) (by decide +kernel)
theorem mw_95 : (Cond.selects "ScaleShopModel" ({ cls := "ScaleShopModel", name := "restore", desc := "(I)V" } : MethodName) ({ cls := "ScaleShopModel", name := "restore", desc := "(I)V" } : MethodName)) ∈ ws0 := zz_m 95 (by decide +kernel) (by decide +kernel)
theorem mw_96 : (Cond.selects "ScaleShopModel" ({ cls := "ScaleShopModel", name := "next", desc := "()I" } : MethodName) ({ cls := "ScaleShopModel", name := "next", desc := "()I" } : MethodName)) ∈ ws0 := zz_m 96 (by decide +kernel) (by decide +kernel)
theorem mw_97 : (Cond.selects "ScaleShopModel" ({ cls := "ScaleShopModel", name := "isClash", desc := "(III)Z" } : MethodName) ({ cls := "ScaleShopModel", name := "isClash", desc := "(III)Z" } : MethodName)) ∈ ws0 := zz_m 97 (by decide +kernel) (by decide +kernel)
end
section
noncomputable def onN (l : List UInt8) : Nat := List.rec (motive := fun _ => Nat) 0 (fun b _ ih => b.toNat + 1 + 512 * ih) l
theorem onN_sh : ∀ (p : Nat) (l : List UInt8), onN l >>> (9 * p) = onN (l.drop p)
  | 0, l => rfl
  | p + 1, [] => (Nat.zero_shiftRight _).trans rfl
  | p + 1, b :: t => by
    have e : onN (b :: t) = b.toNat + 1 + 512 * onN t := rfl
    have hb := UInt8.toNat_lt b
    have e2 : onN (b :: t) >>> 9 = onN t := by rw [Nat.shiftRight_eq_div_pow, e]; omega
    have e3 : 9 * (p + 1) = 9 + 9 * p := by omega
    rw [e3, Nat.shiftRight_add, e2, onN_sh p t]
    rfl
noncomputable def oM (N p : Nat) : Nat := Nat.shiftRight N (Nat.mul 9 p)
theorem oM_c {m : Nat} {l : List UInt8} {o : Nat} (hm : m = onN l) (h : m % 512 = o + 1) : ∃ u t, l = u :: t ∧ u.toNat = o ∧ m / 512 = onN t := by
  cases l with
  | nil => rw [hm] at h; exact absurd h (by show ¬ 0 % 512 = o + 1; omega)
  | cons u t =>
    have e : onN (u :: t) = u.toNat + 1 + 512 * onN t := rfl
    have hb := UInt8.toNat_lt u
    refine ⟨u, t, rfl, ?_, ?_⟩
    · rw [hm, e] at h; omega
    · rw [hm, e]; omega
noncomputable def ob1 (N p o : Nat) : Bool := Nat.beq (Nat.mod (oM N p) 512) (Nat.succ o)
noncomputable def obx (N p : Nat) : Nat := Nat.pred (Nat.mod (Nat.div (oM N p) 512) 512)
noncomputable def oby (N p : Nat) : Nat := Nat.pred (Nat.mod (Nat.div (Nat.div (oM N p) 512) 512) 512)
noncomputable def ob2 (N p o i : Nat) : Bool := Nat.beq (Nat.mod (oM N p) 512) (Nat.succ o) && Nat.beq (Nat.mod (Nat.div (oM N p) 512) 512) (Nat.succ i)
noncomputable def ob2s (N p o : Nat) (z : Int) : Bool := Nat.beq (Nat.mod (oM N p) 512) (Nat.succ o) && (Nat.beq (Nat.mod (Nat.div (oM N p) 512) 512) (Nat.succ (obx N p)) && decide (Reader.signed 8 (obx N p) = z))
noncomputable def ob3a (N p o : Nat) : Bool := Nat.beq (Nat.mod (oM N p) 512) (Nat.succ o) && (Nat.beq (Nat.mod (Nat.div (oM N p) 512) 512) (Nat.succ (obx N p)) && Nat.beq (Nat.mod (Nat.div (Nat.div (oM N p) 512) 512) 512) (Nat.succ (oby N p)))
noncomputable def ob3 (N p o i : Nat) : Bool := ob3a N p o && Nat.beq (obx N p * 256 + oby N p) i
noncomputable def ob3s (N p o : Nat) (z : Int) : Bool := ob3a N p o && decide (Reader.signed 16 (obx N p * 256 + oby N p) = z)
noncomputable def obii (N p o i : Nat) (z : Int) : Bool := ob3a N p o && (Nat.beq (obx N p) i && decide (Reader.signed 8 (oby N p) = z))
theorem odu {c : ByteArray} {p : Nat} {b : UInt8} (h : c.data.toList[p]? = some b) : (Reader.u1 : Decoder Nat) c p = .ok (b.toNat, p + 1) := by
  obtain ⟨hl, he⟩ := List.getElem?_eq_some_iff.mp h
  have hs : p < c.size := hl
  have hb : c[p] = b := he
  show (if h : p < c.size then (do set (p + 1); pure c[p].toNat : Decoder Nat) else throw (HasTruncated.truncated p)) c p = _
  rw [dif_pos hs]
  show Except.ok (c[p].toNat, p + 1) = _
  rw [hb]
theorem odd {l : List UInt8} {p k : Nat} {t : List UInt8} {b : UInt8} (h : l.drop p = t) (hb : t[k]? = some b) : l[p + k]? = some b := by
  rw [← List.getElem?_drop, h]
  exact hb
theorem ou1 {c : ByteArray} {N p o : Nat} (hN : onN c.data.toList = N) (h : ob1 N p o = true) : (Reader.u1 : Decoder Nat) c p = .ok (o, p + 1) := by
  have e := onN_sh p c.data.toList
  rw [hN] at e
  obtain ⟨u, t, e1, hu, _⟩ := oM_c e (Nat.eq_of_beq_eq_true h)
  have a0 := odu (odd (k := 0) e1 rfl)
  rw [hu] at a0
  exact a0
theorem ou2 {c : ByteArray} {N p o i : Nat} (hN : onN c.data.toList = N) (h : ob2 N p o i = true) : (Reader.u1 : Decoder Nat) c p = .ok (o, p + 1) ∧ (Reader.u1 : Decoder Nat) c (p + 1) = .ok (i, p + 1 + 1) := by
  have e := onN_sh p c.data.toList
  rw [hN] at e
  obtain ⟨h0, h1⟩ := Bool.and_eq_true_iff.mp h
  obtain ⟨u, t, e1, hu, e2⟩ := oM_c e (Nat.eq_of_beq_eq_true h0)
  obtain ⟨v, t2, e3, hv, _⟩ := oM_c e2 (Nat.eq_of_beq_eq_true h1)
  rw [e3] at e1
  have a0 := odu (odd (k := 0) e1 rfl)
  have a1 := odu (odd (k := 1) e1 rfl)
  rw [hu] at a0
  rw [hv] at a1
  exact ⟨a0, a1⟩
theorem ou2s {c : ByteArray} {N p o : Nat} {z : Int} (hN : onN c.data.toList = N) (h : ob2s N p o z = true) : ∃ x, (Reader.u1 : Decoder Nat) c p = .ok (o, p + 1) ∧ (Reader.u1 : Decoder Nat) c (p + 1) = .ok (x, p + 1 + 1) ∧ Reader.signed 8 x = z := by
  obtain ⟨h0, h1⟩ := Bool.and_eq_true_iff.mp h
  obtain ⟨h1, h2⟩ := Bool.and_eq_true_iff.mp h1
  have a := ou2 (i := obx N p) hN (Bool.and_eq_true_iff.mpr ⟨h0, h1⟩)
  exact ⟨_, a.1, a.2, of_decide_eq_true h2⟩
theorem ou3a {c : ByteArray} {N p o : Nat} (hN : onN c.data.toList = N) (h : ob3a N p o = true) : (Reader.u1 : Decoder Nat) c p = .ok (o, p + 1) ∧ (Reader.u1 : Decoder Nat) c (p + 1) = .ok (obx N p, p + 1 + 1) ∧ (Reader.u1 : Decoder Nat) c (p + 1 + 1) = .ok (oby N p, p + 1 + 1 + 1) := by
  have e := onN_sh p c.data.toList
  rw [hN] at e
  obtain ⟨h0, h1⟩ := Bool.and_eq_true_iff.mp h
  obtain ⟨h1, h2⟩ := Bool.and_eq_true_iff.mp h1
  obtain ⟨u, t, e1, hu, e2⟩ := oM_c e (Nat.eq_of_beq_eq_true h0)
  obtain ⟨v, t2, e3, hv, e4⟩ := oM_c e2 (Nat.eq_of_beq_eq_true h1)
  obtain ⟨w, t3, e5, hw, _⟩ := oM_c e4 (Nat.eq_of_beq_eq_true h2)
  rw [e5] at e3
  rw [e3] at e1
  have a0 := odu (odd (k := 0) e1 rfl)
  have a1 := odu (odd (k := 1) e1 rfl)
  have a2 := odu (odd (k := 2) e1 rfl)
  rw [hu] at a0
  rw [hv] at a1
  rw [hw] at a2
  exact ⟨a0, a1, a2⟩
theorem ou3 {c : ByteArray} {N p o i : Nat} (hN : onN c.data.toList = N) (h : ob3 N p o i = true) : ∃ x y, (Reader.u1 : Decoder Nat) c p = .ok (o, p + 1) ∧ (Reader.u1 : Decoder Nat) c (p + 1) = .ok (x, p + 1 + 1) ∧ (Reader.u1 : Decoder Nat) c (p + 1 + 1) = .ok (y, p + 1 + 1 + 1) ∧ x * 256 + y = i := by
  obtain ⟨h0, h1⟩ := Bool.and_eq_true_iff.mp h
  have a := ou3a hN h0
  exact ⟨_, _, a.1, a.2.1, a.2.2, Nat.eq_of_beq_eq_true h1⟩
theorem ou3s {c : ByteArray} {N p o : Nat} {z : Int} (hN : onN c.data.toList = N) (h : ob3s N p o z = true) : ∃ x y, (Reader.u1 : Decoder Nat) c p = .ok (o, p + 1) ∧ (Reader.u1 : Decoder Nat) c (p + 1) = .ok (x, p + 1 + 1) ∧ (Reader.u1 : Decoder Nat) c (p + 1 + 1) = .ok (y, p + 1 + 1 + 1) ∧ Reader.signed 16 (x * 256 + y) = z := by
  obtain ⟨h0, h1⟩ := Bool.and_eq_true_iff.mp h
  have a := ou3a hN h0
  exact ⟨_, _, a.1, a.2.1, a.2.2, of_decide_eq_true h1⟩
theorem ouii {c : ByteArray} {N p o i : Nat} {z : Int} (hN : onN c.data.toList = N) (h : obii N p o i z = true) : ∃ y, (Reader.u1 : Decoder Nat) c p = .ok (o, p + 1) ∧ (Reader.u1 : Decoder Nat) c (p + 1) = .ok (i, p + 1 + 1) ∧ (Reader.u1 : Decoder Nat) c (p + 1 + 1) = .ok (y, p + 1 + 1 + 1) ∧ Reader.signed 8 y = z := by
  obtain ⟨h0, h1⟩ := Bool.and_eq_true_iff.mp h
  obtain ⟨h1, h2⟩ := Bool.and_eq_true_iff.mp h1
  have a := ou3a hN h0
  rw [Nat.eq_of_beq_eq_true h1] at a
  exact ⟨_, a.1, a.2.1, a.2.2, of_decide_eq_true h2⟩
theorem odc {c : ByteArray} {pc n q r m : Nat} {i : Instr} (k : Nat → Decoder Instr) (hk : Decoder.instr pc = (Reader.u1 >>= k)) (h0 : (Reader.u1 : Decoder Nat) c pc = .ok (n, q)) (h1 : k n c q = .ok (i, r)) (hr : r - pc = m) : decode c pc = .ok (i, m) := by
  have e : Decoder.instr pc c pc = .ok (i, r) := by
    rw [hk]
    show Except.bind ((Reader.u1 : Decoder Nat) c pc) (fun x => k x.1 c x.2) = _
    rw [h0]
    exact h1
  show Except.bind (Decoder.instr pc c pc) (fun x => Except.ok (x.1, x.2 - pc)) = _
  rw [e, ← hr]
  rfl
theorem of1 {c : ByteArray} {p q x : Nat} {f : Nat → Instr} (h : (Reader.u1 : Decoder Nat) c p = .ok (x, q)) : (Reader.u1 >>= fun a => pure (f a) : Decoder Instr) c p = .ok (f x, q) := by
  show Except.bind ((Reader.u1 : Decoder Nat) c p) (fun x => Except.ok (f x.1, x.2)) = _
  rw [h]
  rfl
theorem os1 {c : ByteArray} {p q x : Nat} {f : Int → Instr} {z : Int} (h : (Reader.u1 : Decoder Nat) c p = .ok (x, q)) (hz : Reader.signed 8 x = z) : (Reader.s1 >>= fun a => pure (f a) : Decoder Instr) c p = .ok (f z, q) := by
  show Except.bind (Except.map (fun x => (Reader.signed 8 x.1, x.2)) ((Reader.u1 : Decoder Nat) c p)) (fun x => Except.ok (f x.1, x.2)) = _
  rw [h, ← hz]
  rfl
theorem ouu {c : ByteArray} {p q r x y i : Nat} (h : (Reader.u1 : Decoder Nat) c p = .ok (x, q)) (h2 : (Reader.u1 : Decoder Nat) c q = .ok (y, r)) (hi : x * 256 + y = i) : (Reader.u2 : Decoder Nat) c p = .ok (i, r) := by
  show Except.bind ((Reader.u1 : Decoder Nat) c p) (fun u => Except.bind ((Reader.u1 : Decoder Nat) c u.2) (fun v => Except.ok (u.1 * 256 + v.1, v.2))) = _
  rw [h]
  show Except.bind ((Reader.u1 : Decoder Nat) c q) (fun v => Except.ok (x * 256 + v.1, v.2)) = _
  rw [h2, ← hi]
  rfl
theorem of2 {c : ByteArray} {p q r x y i : Nat} {f : Nat → Instr} (h : (Reader.u1 : Decoder Nat) c p = .ok (x, q)) (h2 : (Reader.u1 : Decoder Nat) c q = .ok (y, r)) (hi : x * 256 + y = i) : (Reader.u2 >>= fun a => pure (f a) : Decoder Instr) c p = .ok (f i, r) := by
  show Except.bind ((Reader.u2 : Decoder Nat) c p) (fun x => Except.ok (f x.1, x.2)) = _
  rw [ouu h h2 hi]
  rfl
theorem os2 {c : ByteArray} {p q r x y : Nat} {f : Int → Instr} {z : Int} (h : (Reader.u1 : Decoder Nat) c p = .ok (x, q)) (h2 : (Reader.u1 : Decoder Nat) c q = .ok (y, r)) (hz : Reader.signed 16 (x * 256 + y) = z) : (Reader.s2 >>= fun a => pure (f a) : Decoder Instr) c p = .ok (f z, r) := by
  show Except.bind (Except.map (fun x => (Reader.signed 16 x.1, x.2)) ((Reader.u2 : Decoder Nat) c p)) (fun x => Except.ok (f x.1, x.2)) = _
  rw [ouu h h2 rfl, ← hz]
  rfl
theorem oii {c : ByteArray} {p q r i y : Nat} {z : Int} (h : (Reader.u1 : Decoder Nat) c p = .ok (i, q)) (h2 : (Reader.u1 : Decoder Nat) c q = .ok (y, r)) (hz : Reader.signed 8 y = z) : (Reader.u1 >>= fun a => Reader.s1 >>= fun b => pure (.iinc a b) : Decoder Instr) c p = .ok (.iinc i z, r) := by
  show Except.bind ((Reader.u1 : Decoder Nat) c p) (fun u => (Reader.s1 >>= fun b => pure (.iinc u.1 b) : Decoder Instr) c u.2) = _
  rw [h]
  exact os1 (f := fun b => .iinc i b) h2 hz
theorem om1 {p : Nat} : p + 1 - p = 1 := by omega
theorem om2 {p : Nat} : p + 1 + 1 - p = 2 := by omega
theorem om3 {p : Nat} : p + 1 + 1 + 1 - p = 3 := by omega
theorem oin {c : ByteArray} {p q x : Nat} {k : Nat → Decoder Instr} {i : Instr} (h : (Reader.u1 : Decoder Nat) c p = .ok (x, q)) (hk : k x c q = .ok (i, q)) : (Reader.u1 >>= k : Decoder Instr) c p = .ok (i, q) := by
  show Except.bind ((Reader.u1 : Decoder Nat) c p) (fun x => k x.1 c x.2) = _
  rw [h]
  exact hk
theorem op_1 {c : ByteArray} {N pc : Nat} (hN : onN c.data.toList = N) (h : ob1 N pc 1 = true) : decode c pc = .ok (.aconst_null, 1) := odc _ rfl (ou1 hN h) rfl om1
theorem op_2 {c : ByteArray} {N pc : Nat} (hN : onN c.data.toList = N) (h : ob1 N pc 2 = true) : decode c pc = .ok (.iconst (-1), 1) := odc _ rfl (ou1 hN h) rfl om1
theorem op_3 {c : ByteArray} {N pc : Nat} (hN : onN c.data.toList = N) (h : ob1 N pc 3 = true) : decode c pc = .ok (.iconst 0, 1) := odc _ rfl (ou1 hN h) rfl om1
theorem op_4 {c : ByteArray} {N pc : Nat} (hN : onN c.data.toList = N) (h : ob1 N pc 4 = true) : decode c pc = .ok (.iconst 1, 1) := odc _ rfl (ou1 hN h) rfl om1
theorem op_5 {c : ByteArray} {N pc : Nat} (hN : onN c.data.toList = N) (h : ob1 N pc 5 = true) : decode c pc = .ok (.iconst 2, 1) := odc _ rfl (ou1 hN h) rfl om1
theorem op_6 {c : ByteArray} {N pc : Nat} (hN : onN c.data.toList = N) (h : ob1 N pc 6 = true) : decode c pc = .ok (.iconst 3, 1) := odc _ rfl (ou1 hN h) rfl om1
theorem op_7 {c : ByteArray} {N pc : Nat} (hN : onN c.data.toList = N) (h : ob1 N pc 7 = true) : decode c pc = .ok (.iconst 4, 1) := odc _ rfl (ou1 hN h) rfl om1
theorem op_8 {c : ByteArray} {N pc : Nat} (hN : onN c.data.toList = N) (h : ob1 N pc 8 = true) : decode c pc = .ok (.iconst 5, 1) := odc _ rfl (ou1 hN h) rfl om1
theorem op_9 {c : ByteArray} {N pc : Nat} (hN : onN c.data.toList = N) (h : ob1 N pc 9 = true) : decode c pc = .ok (.lconst 0, 1) := odc _ rfl (ou1 hN h) rfl om1
theorem op_10 {c : ByteArray} {N pc : Nat} (hN : onN c.data.toList = N) (h : ob1 N pc 10 = true) : decode c pc = .ok (.lconst 1, 1) := odc _ rfl (ou1 hN h) rfl om1
theorem op_16 {c : ByteArray} {N pc : Nat} (hN : onN c.data.toList = N) {z : Int} (h : ob2s N pc 16 z = true) : decode c pc = .ok (.bipush z, 2) := (ou2s hN h).elim fun _ a => odc _ rfl a.1 (os1 (f := fun z => .bipush z) a.2.1 a.2.2) om2
theorem op_17 {c : ByteArray} {N pc : Nat} (hN : onN c.data.toList = N) {z : Int} (h : ob3s N pc 17 z = true) : decode c pc = .ok (.sipush z, 3) := (ou3s hN h).elim fun _ a => a.elim fun _ a => odc _ rfl a.1 (os2 (f := fun z => .sipush z) a.2.1 a.2.2.1 a.2.2.2) om3
theorem op_18 {c : ByteArray} {N pc : Nat} (hN : onN c.data.toList = N) {i : Nat} (h : ob2 N pc 18 i = true) : decode c pc = .ok (.ldc i, 2) := odc _ rfl (ou2 hN h).1 (of1 (f := fun i => .ldc i) (ou2 hN h).2) om2
theorem op_19 {c : ByteArray} {N pc : Nat} (hN : onN c.data.toList = N) {i : Nat} (h : ob3 N pc 19 i = true) : decode c pc = .ok (.ldc_w i, 3) := (ou3 hN h).elim fun _ a => a.elim fun _ a => odc _ rfl a.1 (of2 (f := fun i => .ldc_w i) a.2.1 a.2.2.1 a.2.2.2) om3
theorem op_20 {c : ByteArray} {N pc : Nat} (hN : onN c.data.toList = N) {i : Nat} (h : ob3 N pc 20 i = true) : decode c pc = .ok (.ldc2_w i, 3) := (ou3 hN h).elim fun _ a => a.elim fun _ a => odc _ rfl a.1 (of2 (f := fun i => .ldc2_w i) a.2.1 a.2.2.1 a.2.2.2) om3
theorem op_21 {c : ByteArray} {N pc : Nat} (hN : onN c.data.toList = N) {i : Nat} (h : ob2 N pc 21 i = true) : decode c pc = .ok (.iload i, 2) := odc _ rfl (ou2 hN h).1 (of1 (f := fun i => .iload i) (ou2 hN h).2) om2
theorem op_22 {c : ByteArray} {N pc : Nat} (hN : onN c.data.toList = N) {i : Nat} (h : ob2 N pc 22 i = true) : decode c pc = .ok (.lload i, 2) := odc _ rfl (ou2 hN h).1 (of1 (f := fun i => .lload i) (ou2 hN h).2) om2
theorem op_25 {c : ByteArray} {N pc : Nat} (hN : onN c.data.toList = N) {i : Nat} (h : ob2 N pc 25 i = true) : decode c pc = .ok (.aload i, 2) := odc _ rfl (ou2 hN h).1 (of1 (f := fun i => .aload i) (ou2 hN h).2) om2
theorem op_26 {c : ByteArray} {N pc : Nat} (hN : onN c.data.toList = N) (h : ob1 N pc 26 = true) : decode c pc = .ok (.iload_n 0, 1) := odc _ rfl (ou1 hN h) rfl om1
theorem op_27 {c : ByteArray} {N pc : Nat} (hN : onN c.data.toList = N) (h : ob1 N pc 27 = true) : decode c pc = .ok (.iload_n 1, 1) := odc _ rfl (ou1 hN h) rfl om1
theorem op_28 {c : ByteArray} {N pc : Nat} (hN : onN c.data.toList = N) (h : ob1 N pc 28 = true) : decode c pc = .ok (.iload_n 2, 1) := odc _ rfl (ou1 hN h) rfl om1
theorem op_29 {c : ByteArray} {N pc : Nat} (hN : onN c.data.toList = N) (h : ob1 N pc 29 = true) : decode c pc = .ok (.iload_n 3, 1) := odc _ rfl (ou1 hN h) rfl om1
theorem op_30 {c : ByteArray} {N pc : Nat} (hN : onN c.data.toList = N) (h : ob1 N pc 30 = true) : decode c pc = .ok (.lload_n 0, 1) := odc _ rfl (ou1 hN h) rfl om1
theorem op_31 {c : ByteArray} {N pc : Nat} (hN : onN c.data.toList = N) (h : ob1 N pc 31 = true) : decode c pc = .ok (.lload_n 1, 1) := odc _ rfl (ou1 hN h) rfl om1
theorem op_32 {c : ByteArray} {N pc : Nat} (hN : onN c.data.toList = N) (h : ob1 N pc 32 = true) : decode c pc = .ok (.lload_n 2, 1) := odc _ rfl (ou1 hN h) rfl om1
theorem op_33 {c : ByteArray} {N pc : Nat} (hN : onN c.data.toList = N) (h : ob1 N pc 33 = true) : decode c pc = .ok (.lload_n 3, 1) := odc _ rfl (ou1 hN h) rfl om1
theorem op_42 {c : ByteArray} {N pc : Nat} (hN : onN c.data.toList = N) (h : ob1 N pc 42 = true) : decode c pc = .ok (.aload_n 0, 1) := odc _ rfl (ou1 hN h) rfl om1
theorem op_43 {c : ByteArray} {N pc : Nat} (hN : onN c.data.toList = N) (h : ob1 N pc 43 = true) : decode c pc = .ok (.aload_n 1, 1) := odc _ rfl (ou1 hN h) rfl om1
theorem op_44 {c : ByteArray} {N pc : Nat} (hN : onN c.data.toList = N) (h : ob1 N pc 44 = true) : decode c pc = .ok (.aload_n 2, 1) := odc _ rfl (ou1 hN h) rfl om1
theorem op_45 {c : ByteArray} {N pc : Nat} (hN : onN c.data.toList = N) (h : ob1 N pc 45 = true) : decode c pc = .ok (.aload_n 3, 1) := odc _ rfl (ou1 hN h) rfl om1
theorem op_46 {c : ByteArray} {N pc : Nat} (hN : onN c.data.toList = N) (h : ob1 N pc 46 = true) : decode c pc = .ok (.iaload, 1) := odc _ rfl (ou1 hN h) rfl om1
theorem op_50 {c : ByteArray} {N pc : Nat} (hN : onN c.data.toList = N) (h : ob1 N pc 50 = true) : decode c pc = .ok (.aaload, 1) := odc _ rfl (ou1 hN h) rfl om1
theorem op_51 {c : ByteArray} {N pc : Nat} (hN : onN c.data.toList = N) (h : ob1 N pc 51 = true) : decode c pc = .ok (.baload, 1) := odc _ rfl (ou1 hN h) rfl om1
theorem op_54 {c : ByteArray} {N pc : Nat} (hN : onN c.data.toList = N) {i : Nat} (h : ob2 N pc 54 i = true) : decode c pc = .ok (.istore i, 2) := odc _ rfl (ou2 hN h).1 (of1 (f := fun i => .istore i) (ou2 hN h).2) om2
theorem op_55 {c : ByteArray} {N pc : Nat} (hN : onN c.data.toList = N) {i : Nat} (h : ob2 N pc 55 i = true) : decode c pc = .ok (.lstore i, 2) := odc _ rfl (ou2 hN h).1 (of1 (f := fun i => .lstore i) (ou2 hN h).2) om2
theorem op_58 {c : ByteArray} {N pc : Nat} (hN : onN c.data.toList = N) {i : Nat} (h : ob2 N pc 58 i = true) : decode c pc = .ok (.astore i, 2) := odc _ rfl (ou2 hN h).1 (of1 (f := fun i => .astore i) (ou2 hN h).2) om2
theorem op_60 {c : ByteArray} {N pc : Nat} (hN : onN c.data.toList = N) (h : ob1 N pc 60 = true) : decode c pc = .ok (.istore_n 1, 1) := odc _ rfl (ou1 hN h) rfl om1
theorem op_61 {c : ByteArray} {N pc : Nat} (hN : onN c.data.toList = N) (h : ob1 N pc 61 = true) : decode c pc = .ok (.istore_n 2, 1) := odc _ rfl (ou1 hN h) rfl om1
theorem op_62 {c : ByteArray} {N pc : Nat} (hN : onN c.data.toList = N) (h : ob1 N pc 62 = true) : decode c pc = .ok (.istore_n 3, 1) := odc _ rfl (ou1 hN h) rfl om1
theorem op_64 {c : ByteArray} {N pc : Nat} (hN : onN c.data.toList = N) (h : ob1 N pc 64 = true) : decode c pc = .ok (.lstore_n 1, 1) := odc _ rfl (ou1 hN h) rfl om1
theorem op_65 {c : ByteArray} {N pc : Nat} (hN : onN c.data.toList = N) (h : ob1 N pc 65 = true) : decode c pc = .ok (.lstore_n 2, 1) := odc _ rfl (ou1 hN h) rfl om1
theorem op_66 {c : ByteArray} {N pc : Nat} (hN : onN c.data.toList = N) (h : ob1 N pc 66 = true) : decode c pc = .ok (.lstore_n 3, 1) := odc _ rfl (ou1 hN h) rfl om1
theorem op_76 {c : ByteArray} {N pc : Nat} (hN : onN c.data.toList = N) (h : ob1 N pc 76 = true) : decode c pc = .ok (.astore_n 1, 1) := odc _ rfl (ou1 hN h) rfl om1
theorem op_77 {c : ByteArray} {N pc : Nat} (hN : onN c.data.toList = N) (h : ob1 N pc 77 = true) : decode c pc = .ok (.astore_n 2, 1) := odc _ rfl (ou1 hN h) rfl om1
theorem op_78 {c : ByteArray} {N pc : Nat} (hN : onN c.data.toList = N) (h : ob1 N pc 78 = true) : decode c pc = .ok (.astore_n 3, 1) := odc _ rfl (ou1 hN h) rfl om1
theorem op_79 {c : ByteArray} {N pc : Nat} (hN : onN c.data.toList = N) (h : ob1 N pc 79 = true) : decode c pc = .ok (.iastore, 1) := odc _ rfl (ou1 hN h) rfl om1
theorem op_83 {c : ByteArray} {N pc : Nat} (hN : onN c.data.toList = N) (h : ob1 N pc 83 = true) : decode c pc = .ok (.aastore, 1) := odc _ rfl (ou1 hN h) rfl om1
theorem op_84 {c : ByteArray} {N pc : Nat} (hN : onN c.data.toList = N) (h : ob1 N pc 84 = true) : decode c pc = .ok (.bastore, 1) := odc _ rfl (ou1 hN h) rfl om1
theorem op_87 {c : ByteArray} {N pc : Nat} (hN : onN c.data.toList = N) (h : ob1 N pc 87 = true) : decode c pc = .ok (.pop, 1) := odc _ rfl (ou1 hN h) rfl om1
theorem op_88 {c : ByteArray} {N pc : Nat} (hN : onN c.data.toList = N) (h : ob1 N pc 88 = true) : decode c pc = .ok (.pop2, 1) := odc _ rfl (ou1 hN h) rfl om1
theorem op_89 {c : ByteArray} {N pc : Nat} (hN : onN c.data.toList = N) (h : ob1 N pc 89 = true) : decode c pc = .ok (.dup, 1) := odc _ rfl (ou1 hN h) rfl om1
theorem op_90 {c : ByteArray} {N pc : Nat} (hN : onN c.data.toList = N) (h : ob1 N pc 90 = true) : decode c pc = .ok (.dup_x1, 1) := odc _ rfl (ou1 hN h) rfl om1
theorem op_92 {c : ByteArray} {N pc : Nat} (hN : onN c.data.toList = N) (h : ob1 N pc 92 = true) : decode c pc = .ok (.dup2, 1) := odc _ rfl (ou1 hN h) rfl om1
theorem op_96 {c : ByteArray} {N pc : Nat} (hN : onN c.data.toList = N) (h : ob1 N pc 96 = true) : decode c pc = .ok (.iadd, 1) := odc _ rfl (ou1 hN h) rfl om1
theorem op_97 {c : ByteArray} {N pc : Nat} (hN : onN c.data.toList = N) (h : ob1 N pc 97 = true) : decode c pc = .ok (.ladd, 1) := odc _ rfl (ou1 hN h) rfl om1
theorem op_100 {c : ByteArray} {N pc : Nat} (hN : onN c.data.toList = N) (h : ob1 N pc 100 = true) : decode c pc = .ok (.isub, 1) := odc _ rfl (ou1 hN h) rfl om1
theorem op_101 {c : ByteArray} {N pc : Nat} (hN : onN c.data.toList = N) (h : ob1 N pc 101 = true) : decode c pc = .ok (.lsub, 1) := odc _ rfl (ou1 hN h) rfl om1
theorem op_104 {c : ByteArray} {N pc : Nat} (hN : onN c.data.toList = N) (h : ob1 N pc 104 = true) : decode c pc = .ok (.imul, 1) := odc _ rfl (ou1 hN h) rfl om1
theorem op_105 {c : ByteArray} {N pc : Nat} (hN : onN c.data.toList = N) (h : ob1 N pc 105 = true) : decode c pc = .ok (.lmul, 1) := odc _ rfl (ou1 hN h) rfl om1
theorem op_108 {c : ByteArray} {N pc : Nat} (hN : onN c.data.toList = N) (h : ob1 N pc 108 = true) : decode c pc = .ok (.idiv, 1) := odc _ rfl (ou1 hN h) rfl om1
theorem op_109 {c : ByteArray} {N pc : Nat} (hN : onN c.data.toList = N) (h : ob1 N pc 109 = true) : decode c pc = .ok (.ldiv, 1) := odc _ rfl (ou1 hN h) rfl om1
theorem op_112 {c : ByteArray} {N pc : Nat} (hN : onN c.data.toList = N) (h : ob1 N pc 112 = true) : decode c pc = .ok (.irem, 1) := odc _ rfl (ou1 hN h) rfl om1
theorem op_113 {c : ByteArray} {N pc : Nat} (hN : onN c.data.toList = N) (h : ob1 N pc 113 = true) : decode c pc = .ok (.lrem, 1) := odc _ rfl (ou1 hN h) rfl om1
theorem op_117 {c : ByteArray} {N pc : Nat} (hN : onN c.data.toList = N) (h : ob1 N pc 117 = true) : decode c pc = .ok (.lneg, 1) := odc _ rfl (ou1 hN h) rfl om1
theorem op_122 {c : ByteArray} {N pc : Nat} (hN : onN c.data.toList = N) (h : ob1 N pc 122 = true) : decode c pc = .ok (.ishr, 1) := odc _ rfl (ou1 hN h) rfl om1
theorem op_126 {c : ByteArray} {N pc : Nat} (hN : onN c.data.toList = N) (h : ob1 N pc 126 = true) : decode c pc = .ok (.iand, 1) := odc _ rfl (ou1 hN h) rfl om1
theorem op_132 {c : ByteArray} {N pc : Nat} (hN : onN c.data.toList = N) {i : Nat} {z : Int} (h : obii N pc 132 i z = true) : decode c pc = .ok (.iinc i z, 3) := (ouii hN h).elim fun _ a => odc _ rfl a.1 (oii a.2.1 a.2.2.1 a.2.2.2) om3
theorem op_133 {c : ByteArray} {N pc : Nat} (hN : onN c.data.toList = N) (h : ob1 N pc 133 = true) : decode c pc = .ok (.i2l, 1) := odc _ rfl (ou1 hN h) rfl om1
theorem op_148 {c : ByteArray} {N pc : Nat} (hN : onN c.data.toList = N) (h : ob1 N pc 148 = true) : decode c pc = .ok (.lcmp, 1) := odc _ rfl (ou1 hN h) rfl om1
theorem op_153 {c : ByteArray} {N pc : Nat} (hN : onN c.data.toList = N) {z : Int} (h : ob3s N pc 153 z = true) : decode c pc = .ok (.ifCond .eq z, 3) := (ou3s hN h).elim fun _ a => a.elim fun _ a => odc _ rfl a.1 (os2 (f := fun z => .ifCond .eq z) a.2.1 a.2.2.1 a.2.2.2) om3
theorem op_154 {c : ByteArray} {N pc : Nat} (hN : onN c.data.toList = N) {z : Int} (h : ob3s N pc 154 z = true) : decode c pc = .ok (.ifCond .ne z, 3) := (ou3s hN h).elim fun _ a => a.elim fun _ a => odc _ rfl a.1 (os2 (f := fun z => .ifCond .ne z) a.2.1 a.2.2.1 a.2.2.2) om3
theorem op_155 {c : ByteArray} {N pc : Nat} (hN : onN c.data.toList = N) {z : Int} (h : ob3s N pc 155 z = true) : decode c pc = .ok (.ifCond .lt z, 3) := (ou3s hN h).elim fun _ a => a.elim fun _ a => odc _ rfl a.1 (os2 (f := fun z => .ifCond .lt z) a.2.1 a.2.2.1 a.2.2.2) om3
theorem op_156 {c : ByteArray} {N pc : Nat} (hN : onN c.data.toList = N) {z : Int} (h : ob3s N pc 156 z = true) : decode c pc = .ok (.ifCond .ge z, 3) := (ou3s hN h).elim fun _ a => a.elim fun _ a => odc _ rfl a.1 (os2 (f := fun z => .ifCond .ge z) a.2.1 a.2.2.1 a.2.2.2) om3
theorem op_157 {c : ByteArray} {N pc : Nat} (hN : onN c.data.toList = N) {z : Int} (h : ob3s N pc 157 z = true) : decode c pc = .ok (.ifCond .gt z, 3) := (ou3s hN h).elim fun _ a => a.elim fun _ a => odc _ rfl a.1 (os2 (f := fun z => .ifCond .gt z) a.2.1 a.2.2.1 a.2.2.2) om3
theorem op_158 {c : ByteArray} {N pc : Nat} (hN : onN c.data.toList = N) {z : Int} (h : ob3s N pc 158 z = true) : decode c pc = .ok (.ifCond .le z, 3) := (ou3s hN h).elim fun _ a => a.elim fun _ a => odc _ rfl a.1 (os2 (f := fun z => .ifCond .le z) a.2.1 a.2.2.1 a.2.2.2) om3
theorem op_159 {c : ByteArray} {N pc : Nat} (hN : onN c.data.toList = N) {z : Int} (h : ob3s N pc 159 z = true) : decode c pc = .ok (.if_icmp .eq z, 3) := (ou3s hN h).elim fun _ a => a.elim fun _ a => odc _ rfl a.1 (os2 (f := fun z => .if_icmp .eq z) a.2.1 a.2.2.1 a.2.2.2) om3
theorem op_160 {c : ByteArray} {N pc : Nat} (hN : onN c.data.toList = N) {z : Int} (h : ob3s N pc 160 z = true) : decode c pc = .ok (.if_icmp .ne z, 3) := (ou3s hN h).elim fun _ a => a.elim fun _ a => odc _ rfl a.1 (os2 (f := fun z => .if_icmp .ne z) a.2.1 a.2.2.1 a.2.2.2) om3
theorem op_161 {c : ByteArray} {N pc : Nat} (hN : onN c.data.toList = N) {z : Int} (h : ob3s N pc 161 z = true) : decode c pc = .ok (.if_icmp .lt z, 3) := (ou3s hN h).elim fun _ a => a.elim fun _ a => odc _ rfl a.1 (os2 (f := fun z => .if_icmp .lt z) a.2.1 a.2.2.1 a.2.2.2) om3
theorem op_162 {c : ByteArray} {N pc : Nat} (hN : onN c.data.toList = N) {z : Int} (h : ob3s N pc 162 z = true) : decode c pc = .ok (.if_icmp .ge z, 3) := (ou3s hN h).elim fun _ a => a.elim fun _ a => odc _ rfl a.1 (os2 (f := fun z => .if_icmp .ge z) a.2.1 a.2.2.1 a.2.2.2) om3
theorem op_163 {c : ByteArray} {N pc : Nat} (hN : onN c.data.toList = N) {z : Int} (h : ob3s N pc 163 z = true) : decode c pc = .ok (.if_icmp .gt z, 3) := (ou3s hN h).elim fun _ a => a.elim fun _ a => odc _ rfl a.1 (os2 (f := fun z => .if_icmp .gt z) a.2.1 a.2.2.1 a.2.2.2) om3
theorem op_164 {c : ByteArray} {N pc : Nat} (hN : onN c.data.toList = N) {z : Int} (h : ob3s N pc 164 z = true) : decode c pc = .ok (.if_icmp .le z, 3) := (ou3s hN h).elim fun _ a => a.elim fun _ a => odc _ rfl a.1 (os2 (f := fun z => .if_icmp .le z) a.2.1 a.2.2.1 a.2.2.2) om3
theorem op_165 {c : ByteArray} {N pc : Nat} (hN : onN c.data.toList = N) {z : Int} (h : ob3s N pc 165 z = true) : decode c pc = .ok (.if_acmp .eq z, 3) := (ou3s hN h).elim fun _ a => a.elim fun _ a => odc _ rfl a.1 (os2 (f := fun z => .if_acmp .eq z) a.2.1 a.2.2.1 a.2.2.2) om3
theorem op_166 {c : ByteArray} {N pc : Nat} (hN : onN c.data.toList = N) {z : Int} (h : ob3s N pc 166 z = true) : decode c pc = .ok (.if_acmp .ne z, 3) := (ou3s hN h).elim fun _ a => a.elim fun _ a => odc _ rfl a.1 (os2 (f := fun z => .if_acmp .ne z) a.2.1 a.2.2.1 a.2.2.2) om3
theorem op_167 {c : ByteArray} {N pc : Nat} (hN : onN c.data.toList = N) {z : Int} (h : ob3s N pc 167 z = true) : decode c pc = .ok (.goto z, 3) := (ou3s hN h).elim fun _ a => a.elim fun _ a => odc _ rfl a.1 (os2 (f := fun z => .goto z) a.2.1 a.2.2.1 a.2.2.2) om3
theorem op_172 {c : ByteArray} {N pc : Nat} (hN : onN c.data.toList = N) (h : ob1 N pc 172 = true) : decode c pc = .ok (.ireturn, 1) := odc _ rfl (ou1 hN h) rfl om1
theorem op_173 {c : ByteArray} {N pc : Nat} (hN : onN c.data.toList = N) (h : ob1 N pc 173 = true) : decode c pc = .ok (.lreturn, 1) := odc _ rfl (ou1 hN h) rfl om1
theorem op_176 {c : ByteArray} {N pc : Nat} (hN : onN c.data.toList = N) (h : ob1 N pc 176 = true) : decode c pc = .ok (.areturn, 1) := odc _ rfl (ou1 hN h) rfl om1
theorem op_177 {c : ByteArray} {N pc : Nat} (hN : onN c.data.toList = N) (h : ob1 N pc 177 = true) : decode c pc = .ok (.return_, 1) := odc _ rfl (ou1 hN h) rfl om1
theorem op_178 {c : ByteArray} {N pc : Nat} (hN : onN c.data.toList = N) {i : Nat} (h : ob3 N pc 178 i = true) : decode c pc = .ok (.getstatic i, 3) := (ou3 hN h).elim fun _ a => a.elim fun _ a => odc _ rfl a.1 (of2 (f := fun i => .getstatic i) a.2.1 a.2.2.1 a.2.2.2) om3
theorem op_180 {c : ByteArray} {N pc : Nat} (hN : onN c.data.toList = N) {i : Nat} (h : ob3 N pc 180 i = true) : decode c pc = .ok (.getfield i, 3) := (ou3 hN h).elim fun _ a => a.elim fun _ a => odc _ rfl a.1 (of2 (f := fun i => .getfield i) a.2.1 a.2.2.1 a.2.2.2) om3
theorem op_181 {c : ByteArray} {N pc : Nat} (hN : onN c.data.toList = N) {i : Nat} (h : ob3 N pc 181 i = true) : decode c pc = .ok (.putfield i, 3) := (ou3 hN h).elim fun _ a => a.elim fun _ a => odc _ rfl a.1 (of2 (f := fun i => .putfield i) a.2.1 a.2.2.1 a.2.2.2) om3
theorem op_182 {c : ByteArray} {N pc : Nat} (hN : onN c.data.toList = N) {i : Nat} (h : ob3 N pc 182 i = true) : decode c pc = .ok (.invokevirtual i, 3) := (ou3 hN h).elim fun _ a => a.elim fun _ a => odc _ rfl a.1 (of2 (f := fun i => .invokevirtual i) a.2.1 a.2.2.1 a.2.2.2) om3
theorem op_183 {c : ByteArray} {N pc : Nat} (hN : onN c.data.toList = N) {i : Nat} (h : ob3 N pc 183 i = true) : decode c pc = .ok (.invokespecial i, 3) := (ou3 hN h).elim fun _ a => a.elim fun _ a => odc _ rfl a.1 (of2 (f := fun i => .invokespecial i) a.2.1 a.2.2.1 a.2.2.2) om3
theorem op_184 {c : ByteArray} {N pc : Nat} (hN : onN c.data.toList = N) {i : Nat} (h : ob3 N pc 184 i = true) : decode c pc = .ok (.invokestatic i, 3) := (ou3 hN h).elim fun _ a => a.elim fun _ a => odc _ rfl a.1 (of2 (f := fun i => .invokestatic i) a.2.1 a.2.2.1 a.2.2.2) om3
theorem op_187 {c : ByteArray} {N pc : Nat} (hN : onN c.data.toList = N) {i : Nat} (h : ob3 N pc 187 i = true) : decode c pc = .ok (.new i, 3) := (ou3 hN h).elim fun _ a => a.elim fun _ a => odc _ rfl a.1 (of2 (f := fun i => .new i) a.2.1 a.2.2.1 a.2.2.2) om3
theorem op_189 {c : ByteArray} {N pc : Nat} (hN : onN c.data.toList = N) {i : Nat} (h : ob3 N pc 189 i = true) : decode c pc = .ok (.anewarray i, 3) := (ou3 hN h).elim fun _ a => a.elim fun _ a => odc _ rfl a.1 (of2 (f := fun i => .anewarray i) a.2.1 a.2.2.1 a.2.2.2) om3
theorem op_190 {c : ByteArray} {N pc : Nat} (hN : onN c.data.toList = N) (h : ob1 N pc 190 = true) : decode c pc = .ok (.arraylength, 1) := odc _ rfl (ou1 hN h) rfl om1
theorem op_192 {c : ByteArray} {N pc : Nat} (hN : onN c.data.toList = N) {i : Nat} (h : ob3 N pc 192 i = true) : decode c pc = .ok (.checkcast i, 3) := (ou3 hN h).elim fun _ a => a.elim fun _ a => odc _ rfl a.1 (of2 (f := fun i => .checkcast i) a.2.1 a.2.2.1 a.2.2.2) om3
theorem op_198 {c : ByteArray} {N pc : Nat} (hN : onN c.data.toList = N) {z : Int} (h : ob3s N pc 198 z = true) : decode c pc = .ok (.ifnull z, 3) := (ou3s hN h).elim fun _ a => a.elim fun _ a => odc _ rfl a.1 (os2 (f := fun z => .ifnull z) a.2.1 a.2.2.1 a.2.2.2) om3
theorem op_199 {c : ByteArray} {N pc : Nat} (hN : onN c.data.toList = N) {z : Int} (h : ob3s N pc 199 z = true) : decode c pc = .ok (.ifnonnull z, 3) := (ou3s hN h).elim fun _ a => a.elim fun _ a => odc _ rfl a.1 (os2 (f := fun z => .ifnonnull z) a.2.1 a.2.2.1 a.2.2.2) om3
theorem op_1004 {c : ByteArray} {N pc : Nat} (hN : onN c.data.toList = N) (h : ob2 N pc 188 4 = true) : decode c pc = .ok (.newarray .boolean, 2) := odc _ rfl (ou2 hN h).1 (oin (ou2 hN h).2 rfl) om2
theorem op_1010 {c : ByteArray} {N pc : Nat} (hN : onN c.data.toList = N) (h : ob2 N pc 188 10 = true) : decode c pc = .ok (.newarray .int, 2) := odc _ rfl (ou2 hN h).1 (oin (ou2 hN h).2 rfl) om2
end
