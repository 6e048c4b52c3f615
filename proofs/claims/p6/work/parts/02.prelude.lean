section
/-! the words: those of the tables that a contract may carry; and the calls' own end -/
def ws0 : List Cond := lw_tbl.filter goodWord
theorem zz_m {w : Cond} (i : Nat) (h : lw_tbl[i]? = some w) (g : goodWord w = true) : w ∈ ws0 := List.mem_filter.mpr ⟨List.mem_of_getElem? h, g⟩
theorem zz_g0 {w : Cond} (h : w ∈ ws0) : w ∈ ws0 ∧ ((w.onTables && w.keeps) = true ∨ ∃ ty, w = .arrayClass ty) := ⟨h, good_of_word (List.mem_filter.mp h).2⟩
theorem zz_in (ws : List Cond) (ps : List Nat) (hp : ws = ps.filterMap (fun i => lw_tbl[i]?)) (hg : ws.all goodWord = true) : ∀ w ∈ ws, w ∈ ws0 := by
  intro w hw
  have h1 := List.all_eq_true.mp hg w hw
  rw [hp] at hw
  obtain ⟨i, -, hi⟩ := List.mem_filterMap.mp hw
  exact zz_m i hi h1
theorem zz_gl {ws : List Cond} (h : ∀ w ∈ ws, w ∈ ws0) : GoodIn ws0 ws := fun w hw => zz_g0 (h w hw)
theorem zz_gC {cd : Cond} (h5 : cd ∈ ws0) : GoodIn ws0 (cd :: ws0) := zz_gl (fun w hw => (List.mem_cons.mp hw).elim (fun e => by rw [e]; exact h5) id)
theorem zz_gV {own C : String} {idx : Nat} {y : MethodName} {cd : Cond} (h1 : Cond.methodLink own idx y ∈ ws0) (h2 : Cond.instanceMethod y ∈ ws0) (h3 : Cond.selects C y y ∈ ws0) (h4 : Cond.initialized C ∈ ws0) (h5 : cd ∈ ws0) : GoodIn ws0 (wsV own idx C y (cd :: ws0)) := by
  intro w hw
  unfold wsV at hw
  rcases List.mem_append.mp hw with h | h
  · simp only [List.mem_cons, List.not_mem_nil, or_false] at h
    rcases h with rfl | rfl | rfl | rfl
    · exact zz_g0 h1
    · exact zz_g0 h2
    · exact zz_g0 h3
    · exact zz_g0 h4
  · exact zz_gC h5 w h
theorem zz_gS {own : String} {idx : Nat} {y : MethodName} {cd : Cond} (h1 : Cond.methodLink own idx y ∈ ws0) (h2 : Cond.static y ∈ ws0) (h4 : Cond.initialized y.cls ∈ ws0) (h5 : cd ∈ ws0) : GoodIn ws0 (va_wsS own idx y (cd :: ws0)) := by
  intro w hw
  unfold va_wsS at hw
  rcases List.mem_append.mp hw with h | h
  · simp only [List.mem_cons, List.not_mem_nil, or_false] at h
    rcases h with rfl | rfl | rfl
    · exact zz_g0 h1
    · exact zz_g0 h2
    · exact zz_g0 h4
  · exact zz_gC h5 w h
/-- a method's end: its answer, its world behind it, and that nothing else has changed -/
def zQ (v : Option Value) (B : State → Prop) (A : Nat → Prop) : Array Value → State → Outcome → State → Prop := fun _ st oc t => (oc = .returned v ∧ B t) ∧ va_F A st t
section ZC
variable {p : Program} {l : Launch} {e : Env} {R : Room} {s : State} {m : MethodId} {args : Array Value} {below : List Frame} {meth : Method} {c : Code} {H : Heap} {locs : List Loc} {cells slots : Nat} {Q : State → Prop}
variable {pc : Nat} {ls : Array Slot} {rest st0 st1 : List Value} {a : Array Value} {A0 A1 : Nat → Prop} {H0 : Heap} {mc ms : Nat} {free : Addr → Prop}
theorem zcall {v : Option Value} {B : State → Prop} (hr : va_Run p l e R s m args below meth c H locs cells slots mc ms (F0 m pc ls st0) rest (zQ v B A1 a) free) (hS : va_S A0 H0 H locs) (hA : ∀ q, A1 q → A0 q) (hf : ∀ q, free q → A0 q) (hst : v.toList ++ rest = st1)
    (kk : ∀ (t : State) (H1 : Heap) (locs1 : List Loc), t.heap = H1 → B t → (∀ q : Nat, q < H.size → ¬ A1 q → H1[q]? = H[q]?) → va_S A0 H0 H1 locs1 → W p l e R s m args below meth c H1 locs1 (cells + mc) (slots + ms) Q (F0 m (pc + 3) ls st1)) : W p l e R s m args below meth c H locs cells slots Q (F0 m pc ls st0) := by
  intro T hT X
  obtain ⟨v1, st₀, t, T', L, h0, X', hL, e1, e2, ⟨⟨hv, hb⟩, hz, hk⟩, st⟩ := hr T hT X
  cases hv
  rw [h0] at hz hk
  subst hst
  obtain ⟨t2, a1, b1⟩ := kk t T'.heap (locs ++ L) e1.symm hb (fun q h1 h2 => by rw [e1]; exact hk q h1 h2)
    ⟨Nat.le_trans hS.1 (by rw [e1]; exact hz), fun q h1 h2 => by rw [e1, hk q (Nat.lt_of_lt_of_le h1 hS.1) (fun z => h2 (hA q z))]; exact hS.2.1 q h1 h2, fun q hq => by
      rcases List.mem_append.mp hq with h | h
      · exact hS.2.2 q h
      · exact hf _ (hL q h)⟩ T' rfl X'
  exact ⟨t2, st t2 a1, b1⟩
theorem zz_i {x v : Int32} (h : x = v) (k : W p l e R s m args below meth c H locs cells slots Q (F0 m pc ls (.int v :: rest))) : W p l e R s m args below meth c H locs cells slots Q (F0 m pc ls (.int x :: rest)) := by
  subst h; exact k
theorem zz_l {x v : Int64} (h : x = v) (k : W p l e R s m args below meth c H locs cells slots Q (F0 m pc ls (.long v :: rest))) : W p l e R s m args below meth c H locs cells slots Q (F0 m pc ls (.long x :: rest)) := by
  subst h; exact k
end ZC
/-- a method's start: the heap's size, its world, the tables; and what else it wants -/
def zPre (D : va_G) (cl : List vw_C) (tys : List (ClassId × FieldType)) (w : va_W) (sz : Nat) (X : State → Prop) (U : State) : Prop := U.heap.size = sz ∧ va_P D cl w U.heap ∧ va_K D cl tys U ∧ va_D (fun _ => True) w ∧ X U
theorem zBlind {D : va_G} {cl : List vw_C} {tys : List (ClassId × FieldType)} {w : va_W} {sz : Nat} {X : State → Prop} {av : List Value} (hX : ∀ (a : Array Value) (U : State) (g : JFrame) (mk : MethodId), X U → X (U.calling g mk a)) : FrameBlind (va_Pc av (zPre D cl tys w sz X)) := by
  intro a U g mk q
  obtain ⟨q0, q1, qP, qK, qD, qX⟩ := q
  exact ⟨q0, q1, qP, va_K.moved (u := U) (U := U.calling g mk a) (Vm.Alike.refl U.vm) qK, qD, hX a U g mk qX⟩
theorem zAt {s : State} {H : Heap} {D : va_G} {cl : List vw_C} {tys : List (ClassId × FieldType)} {w : va_W} {A : Nat → Prop} {X : State → Prop} {av : List Value} (hP : va_P D cl w H) (hD : va_D A w) (hK : va_K D cl tys s) (hX : ∀ U : State, U.heap = H → s.WarmedH U.vm → X U) : ∀ U : State, U.heap = H → s.WarmedH U.vm → va_Pc av (zPre D cl tys w H.size X) av.toArray U :=
  fun U hU hW => ⟨rfl, by rw [hU], by rw [hU]; exact hP, va_K.moved hW.alike hK, hD.weaken (fun _ _ _ _ => trivial), hX U hU hW⟩
/-- arrays whose class is known already -/
theorem zz_sameArr {s : State} {c1 c2 : ClassId} {ty : FieldType} (h1 : va_RA s c1 ty) (h2 : va_RA s c2 ty) : c1 = c2 := by
  cases ty with
  | object C =>
    obtain ⟨-, -, -, -, -, h1⟩ := h1
    obtain ⟨-, -, -, -, -, h2⟩ := h2
    exact Option.some.inj (h1.symm.trans h2)
  | _ => exact Option.some.inj (h1.symm.trans h2)
section ZN
variable {p : Program} {l : Launch} {e : Env} {R : Room} {s : State} {m : MethodId} {args : Array Value} {below : List Frame} {meth : Method} {c : Code} {H : Heap} {locs : List Loc} {cells slots : Nat} {Q : State → Prop}
variable {cc : ByteArray} {pc : Nat} {ls : Array Slot} {rest : List Value} {D : va_G} {cl : List vw_C} {A : Nat → Prop} {tys : List (ClassId × FieldType)} {ws : va_W} {H0 : Heap}
theorem zz_newa (hexec : p.tables.exec = Jvm.exec) (hb : c.code = cc) {atype : ArrayType} (harr : (Cond.arrayClass (newarray.typeOf atype)).before args s = true) {ty : FieldType} (hty : newarray.typeOf atype = ty) (hK : va_K D cl tys s) (hP : va_P D cl ws H) (hD : va_D A ws) (hS : va_S A H0 H locs) (hA : ∀ q, H0.size ≤ q → A q)
    {n : Int32} {N' : Nat} {a0 : vp_A} {cA : ClassId} (t0 : Nat) (ht : tys[t0]? = some (cA, ty)) (ha : ∀ cA : ClassId, vp_cell cA a0 = arrV cA N' (fun _ => defaultValue ty)) (hn : ¬ n < 0) (hN : n.toNatClampNeg = N') (hbytes : N' * componentBytes ty ≤ 536870912) (hcells : cells + 1 ≤ R.cells) (hslots : slots + N' ≤ R.slots) (hdg : decode cc pc = .ok (.newarray atype, 2))
    (kk : ∀ (q : Nat) (H1 : Heap), va_P D cl (ws ++ [(q, .inl (cA, a0))]) H1 → va_D A (ws ++ [(q, .inl (cA, a0))]) → va_S A H0 H1 locs →
      W p l e R s m args below meth c H1 locs (cells + 1) (slots + N') Q (F0 m (pc + 2) ls (.ref q :: rest))) : W p l e R s m args below meth c H locs cells slots Q (F0 m pc ls (.int n :: rest)) := by
  refine va_newa hexec hb harr hty hK hP hD hS hA ha hn hN hbytes hcells hslots hdg (fun q cB H1 hK1 hP1 hD1 hS1 => ?_)
  have e1 : (tys ++ [(cB, ty)])[tys.length]? = some (cB, ty) := by rw [List.getElem?_append_right (Nat.le_refl _)]; simp
  have e2 : cB = cA := zz_sameArr (hK1.2 _ _ e1).2 (hK.2 t0 _ ht).2
  subst e2
  exact kk q H1 hP1 hD1 hS1
end ZN
/-- numbers between two bounds, as the class and the reference ask it -/
def zw (v a b : Int32) : Int32 := if v < a then 0 else if b < v then 0 else 1
end
section
/-! numbers: a truth as an int, whole numbers as ints, what a comparison says of whole numbers -/
noncomputable def pI (p : Prop) : Int32 := @ite Int32 p (Classical.propDecidable p) 1 0
theorem zp_t {p : Prop} (h : p) : pI p = 1 := by unfold pI; rw [if_pos h]
theorem zp_f {p : Prop} (h : ¬ p) : pI p = 0 := by unfold pI; rw [if_neg h]
theorem zp_0 {p : Prop} (h : pI p = 0) : ¬ p := fun q => by rw [zp_t q] at h; exact absurd h (by decide)
theorem zp_1 {p : Prop} (h : ¬ pI p = 0) : p := Classical.byContradiction fun q => h (zp_f q)
theorem zp_iff {p q : Prop} (h : p ↔ q) : pI p = pI q := by rw [propext h]
theorem zp_and (p : Prop) : pI p &&& 1 = pI p := by
  rcases Classical.em p with h | h
  · rw [zp_t h]; decide
  · rw [zp_f h]; decide
theorem zp_nar (p : Prop) : narrow .boolean (.int (pI p)) = .int (pI p) := by show Value.int (pI p &&& 1) = _; rw [zp_and]
theorem fb_bmod {z : Int} (h1 : -2147483648 ≤ z) (h2 : z < 2147483648) : z.bmod (2 ^ 32) = z := by
  rw [Int.bmod_eq_of_le (by omega) (by omega)]
theorem fb_addI {x y : Int32} (h1 : -2147483648 ≤ x.toInt + y.toInt) (h2 : x.toInt + y.toInt < 2147483648) : (x + y).toInt = x.toInt + y.toInt := by
  rw [Int32.toInt_add, fb_bmod h1 h2]
theorem fb_subI {x y : Int32} (h1 : -2147483648 ≤ x.toInt - y.toInt) (h2 : x.toInt - y.toInt < 2147483648) : (x - y).toInt = x.toInt - y.toInt := by
  rw [Int32.toInt_sub, fb_bmod h1 h2]
theorem fb_mulI {x y : Int32} (h1 : -2147483648 ≤ x.toInt * y.toInt) (h2 : x.toInt * y.toInt < 2147483648) : (x * y).toInt = x.toInt * y.toInt := by
  rw [Int32.toInt_mul, fb_bmod h1 h2]
theorem fb_bmodL {z : Int} (h1 : -9223372036854775808 ≤ z) (h2 : z < 9223372036854775808) : z.bmod (2 ^ 64) = z := by
  rw [Int.bmod_eq_of_le (by omega) (by omega)]
theorem fb_addL {x y : Int64} (h1 : -9223372036854775808 ≤ x.toInt + y.toInt) (h2 : x.toInt + y.toInt < 9223372036854775808) : (x + y).toInt = x.toInt + y.toInt := by
  rw [Int64.toInt_add, fb_bmodL h1 h2]
theorem fb_subL {x y : Int64} (h1 : -9223372036854775808 ≤ x.toInt - y.toInt) (h2 : x.toInt - y.toInt < 9223372036854775808) : (x - y).toInt = x.toInt - y.toInt := by
  rw [Int64.toInt_sub, fb_bmodL h1 h2]
theorem fb_mulL {x y : Int64} (h1 : -9223372036854775808 ≤ x.toInt * y.toInt) (h2 : x.toInt * y.toInt < 9223372036854775808) : (x * y).toInt = x.toInt * y.toInt := by
  rw [Int64.toInt_mul, fb_bmodL h1 h2]
def iI (z : Int) : Int32 := Int32.ofInt z
def jI (z : Int) : Int64 := Int64.ofInt z
theorem iI_toInt {z : Int} (h : -2147483648 ≤ z ∧ z < 2147483648) : (iI z).toInt = z := by
  unfold iI; rw [Int32.toInt_ofInt, fb_bmod h.1 h.2]
theorem jI_toInt {z : Int} (h : -9223372036854775808 ≤ z ∧ z < 9223372036854775808) : (jI z).toInt = z := by
  unfold jI; rw [Int64.toInt_ofInt, fb_bmodL h.1 h.2]
theorem iI_of {x : Int32} {z : Int} (h : x.toInt = z) : x = iI z := by rw [← h]; exact (Int32.ofInt_toInt x).symm
theorem jI_of {x : Int64} {z : Int} (h : x.toInt = z) : x = jI z := by rw [← h]; exact (Int64.ofInt_toInt x).symm
theorem zc_eq {x y : Int32} {a b : Int} (hx : x.toInt = a) (hy : y.toInt = b) (h : x = y) : a = b := by rw [← hx, ← hy, h]
theorem zc_ne {x y : Int32} {a b : Int} (hx : x.toInt = a) (hy : y.toInt = b) (h : ¬ x = y) : ¬ a = b := fun q => h (Int32.toInt_inj.mp (by rw [hx, hy, q]))
theorem zc_lt {x y : Int32} {a b : Int} (hx : x.toInt = a) (hy : y.toInt = b) (h : x < y) : a < b := by rw [← hx, ← hy]; exact Int32.lt_iff_toInt_lt.mp h
theorem zc_nlt {x y : Int32} {a b : Int} (hx : x.toInt = a) (hy : y.toInt = b) (h : ¬ x < y) : b ≤ a := Int.not_lt.mp fun q => h (Int32.lt_iff_toInt_lt.mpr (by rw [hx, hy]; exact q))
theorem zc_le {x y : Int32} {a b : Int} (hx : x.toInt = a) (hy : y.toInt = b) (h : x ≤ y) : a ≤ b := by rw [← hx, ← hy]; exact Int32.le_iff_toInt_le.mp h
theorem zc_nle {x y : Int32} {a b : Int} (hx : x.toInt = a) (hy : y.toInt = b) (h : ¬ x ≤ y) : b < a := Int.not_le.mp fun q => h (Int32.le_iff_toInt_le.mpr (by rw [hx, hy]; exact q))
theorem zl_eq {x y : Int64} {a b : Int} (hx : x.toInt = a) (hy : y.toInt = b) (h : lg_cmp x y = 0) : a = b := by rw [← hx, ← hy, (lg_cmp_eq x y).mp h]
theorem zl_ne {x y : Int64} {a b : Int} (hx : x.toInt = a) (hy : y.toInt = b) (h : ¬ lg_cmp x y = 0) : ¬ a = b := fun q => h ((lg_cmp_eq x y).mpr (Int64.toInt_inj.mp (by rw [hx, hy, q])))
theorem zl_lt {x y : Int64} {a b : Int} (hx : x.toInt = a) (hy : y.toInt = b) (h : lg_cmp x y < 0) : a < b := by rw [← hx, ← hy]; exact Int64.lt_iff_toInt_lt.mp ((lg_cmp_lt x y).mp h)
theorem zl_nlt {x y : Int64} {a b : Int} (hx : x.toInt = a) (hy : y.toInt = b) (h : ¬ lg_cmp x y < 0) : b ≤ a := Int.not_lt.mp fun q => h ((lg_cmp_lt x y).mpr (Int64.lt_iff_toInt_lt.mpr (by rw [hx, hy]; exact q)))
theorem zl_ge {x y : Int64} {a b : Int} (hx : x.toInt = a) (hy : y.toInt = b) (h : 0 ≤ lg_cmp x y) : b ≤ a := by rw [← hx, ← hy]; exact Int64.le_iff_toInt_le.mp ((lg_cmp_ge x y).mp h)
theorem zl_nge {x y : Int64} {a b : Int} (hx : x.toInt = a) (hy : y.toInt = b) (h : ¬ 0 ≤ lg_cmp x y) : a < b := Int.not_le.mp fun q => h ((lg_cmp_ge x y).mpr (Int64.le_iff_toInt_le.mpr (by rw [hx, hy]; exact q)))
theorem zl_gt {x y : Int64} {a b : Int} (hx : x.toInt = a) (hy : y.toInt = b) (h : 0 < lg_cmp x y) : b < a := by rw [← hx, ← hy]; exact Int64.lt_iff_toInt_lt.mp ((lg_cmp_gt x y).mp h)
theorem zl_ngt {x y : Int64} {a b : Int} (hx : x.toInt = a) (hy : y.toInt = b) (h : ¬ 0 < lg_cmp x y) : a ≤ b := Int.not_lt.mp fun q => h ((lg_cmp_gt x y).mpr (Int64.lt_iff_toInt_lt.mpr (by rw [hx, hy]; exact q)))
theorem zl_le {x y : Int64} {a b : Int} (hx : x.toInt = a) (hy : y.toInt = b) (h : lg_cmp x y ≤ 0) : a ≤ b := by rw [← hx, ← hy]; exact Int64.le_iff_toInt_le.mp ((lg_cmp_le x y).mp h)
theorem zl_nle {x y : Int64} {a b : Int} (hx : x.toInt = a) (hy : y.toInt = b) (h : ¬ lg_cmp x y ≤ 0) : b < a := Int.not_le.mp fun q => h ((lg_cmp_le x y).mpr (Int64.le_iff_toInt_le.mpr (by rw [hx, hy]; exact q)))
theorem zmax {x y v : Int32} {a b : Int} (hx : x.toInt = a) (hy : y.toInt = b) (h : v = if x < y then y else x) : v.toInt = max a b := by
  by_cases q : x < y
  · rw [h, if_pos q, hy]; have := zc_lt hx hy q; omega
  · rw [h, if_neg q, hx]; have := zc_nlt hx hy q; omega
theorem zmin {x y v : Int32} {a b : Int} (hx : x.toInt = a) (hy : y.toInt = b) (h : v = if y < x then y else x) : v.toInt = min a b := by
  by_cases q : y < x
  · rw [h, if_pos q, hy]; have := zc_lt hy hx q; omega
  · rw [h, if_neg q, hx]; have := zc_nlt hy hx q; omega
section ZA
variable {p : Program} {l : Launch} {e₀ : Env} {R : Room} {s : State} {m : MethodId} {args : Array Value} {below : List Frame} {meth : Method} {c : Code} {H : Heap} {locs : List Loc} {cells slots : Nat} {Q : State → Prop}
variable {cc : ByteArray} {pc : Nat} {ls : Array Slot} {rest : List Value} {D : va_G} {cl : List vw_C} {A : Nat → Prop} {a : Nat} {tys : List (ClassId × FieldType)} {ws : va_W} {H0 : Heap}
theorem z_iald (hexec : p.tables.exec = Jvm.exec) (hb : c.code = cc) (hK : va_K D cl tys s) (hP : va_P D cl ws H) (q0 t0 : Nat) {cA : ClassId} {n : Nat} {f : Nat → Int32} (ha : ws[q0]? = some (a, .inl (cA, n, .inl f))) (ht : tys[t0]? = some (cA, .int)) {i : Int32} {e : Nat} (hi : i = nI e) (he : e < n) (hn : n < 2147483648) (hdg : decode cc pc = .ok (.iaload, 1))
    (kk : W p l e₀ R s m args below meth c H locs cells slots Q (F0 m (pc + 1) ls (.int (f e) :: rest))) : W p l e₀ R s m args below meth c H locs cells slots Q (F0 m pc ls (.int i :: .ref a :: rest)) := by
  subst hi
  refine va_iald hexec hb hK hP q0 t0 ha ht (vp_in_nI he hn) hdg ?_
  rw [nI_clamp (by omega)]; exact kk
theorem z_zald (hexec : p.tables.exec = Jvm.exec) (hb : c.code = cc) (hK : va_K D cl tys s) (hP : va_P D cl ws H) (q0 t0 : Nat) {cA : ClassId} {n : Nat} {f : Nat → Int32} (ha : ws[q0]? = some (a, .inl (cA, n, .inl f))) (ht : tys[t0]? = some (cA, .boolean)) {i : Int32} {e : Nat} (hi : i = nI e) (he : e < n) (hn : n < 2147483648) (hdg : decode cc pc = .ok (.baload, 1))
    (kk : W p l e₀ R s m args below meth c H locs cells slots Q (F0 m (pc + 1) ls (.int (f e) :: rest))) : W p l e₀ R s m args below meth c H locs cells slots Q (F0 m pc ls (.int i :: .ref a :: rest)) := by
  subst hi
  refine va_zald hexec hb hK hP q0 t0 ha ht (vp_in_nI he hn) hdg ?_
  rw [nI_clamp (by omega)]; exact kk
theorem z_iast (hexec : p.tables.exec = Jvm.exec) (hb : c.code = cc) (hK : va_K D cl tys s) (hP : va_P D cl ws H) (hD : va_D A ws) (hS : va_S A H0 H locs) (q0 t0 : Nat) {cA : ClassId} {n : Nat} {f : Nat → Int32} (ha : ws[q0]? = some (a, .inl (cA, n, .inl f))) (ht : tys[t0]? = some (cA, .int)) {i : Int32} {x : Int32} {e : Nat} (hi : i = nI e) (he : e < n) (hn : n < 2147483648) (hdg : decode cc pc = .ok (.iastore, 1))
    (kk : ∀ (H1 : Heap) (locs1 : List Loc), va_P D cl (ws.set q0 (a, .inl (cA, n, .inl (upd f e x)))) H1 → va_D A (ws.set q0 (a, .inl (cA, n, .inl (upd f e x)))) → va_S A H0 H1 locs1 → W p l e₀ R s m args below meth c H1 locs1 cells slots Q (F0 m (pc + 1) ls rest)) : W p l e₀ R s m args below meth c H locs cells slots Q (F0 m pc ls (.int x :: .int i :: .ref a :: rest)) := by
  subst hi
  refine va_iast hexec hb hK hP hD hS q0 t0 ha ht (vp_in_nI he hn) hdg ?_
  rw [nI_clamp (by omega)]; exact kk
theorem z_zast (hexec : p.tables.exec = Jvm.exec) (hb : c.code = cc) (hK : va_K D cl tys s) (hP : va_P D cl ws H) (hD : va_D A ws) (hS : va_S A H0 H locs) (q0 t0 : Nat) {cA : ClassId} {n : Nat} {f : Nat → Int32} (ha : ws[q0]? = some (a, .inl (cA, n, .inl f))) (ht : tys[t0]? = some (cA, .boolean)) {i : Int32} {x : Int32} {e : Nat} (hi : i = nI e) (he : e < n) (hn : n < 2147483648) (hx1 : x &&& 1 = x) (hdg : decode cc pc = .ok (.bastore, 1))
    (kk : ∀ (H1 : Heap) (locs1 : List Loc), va_P D cl (ws.set q0 (a, .inl (cA, n, .inl (upd f e x)))) H1 → va_D A (ws.set q0 (a, .inl (cA, n, .inl (upd f e x)))) → va_S A H0 H1 locs1 → W p l e₀ R s m args below meth c H1 locs1 cells slots Q (F0 m (pc + 1) ls rest)) : W p l e₀ R s m args below meth c H locs cells slots Q (F0 m pc ls (.int x :: .int i :: .ref a :: rest)) := by
  subst hi
  refine va_zast hexec hb hK hP hD hS q0 t0 ha ht (vp_in_nI he hn) hdg ?_
  rw [nI_clamp (by omega), show vp_nar .boolean x = x from hx1]; exact kk
end ZA
end
section
/-! worlds told once: pick, join and put back in order in one row -/
theorem zz_fm9 : ∀ (l : va_W), (l.map some).filterMap id = l
  | [] => rfl
  | a :: l => by
    show a :: (l.map some).filterMap id = a :: l
    rw [zz_fm9 l]
theorem zz_fm8 (f : Nat → Option (Nat × va_E)) : ∀ is : List Nat, is.filterMap f = (is.map f).filterMap id
  | [] => rfl
  | i :: is => by
    show (i :: is).filterMap f = (f i :: is.map f).filterMap id
    rw [List.filterMap_cons, List.filterMap_cons, zz_fm8 f is]
    rfl
theorem zz_fm {ws wc : va_W} {is : List Nat} (h : is.map (fun i => ws[i]?) = wc.map some) : is.filterMap (fun i => ws[i]?) = wc := by
  rw [zz_fm8, h, zz_fm9]
theorem zc_sub {A0 : Nat → Prop} {D : va_G} {cl : List vw_C} {ws wc : va_W} {H0 H : Heap} {locs : List Loc} (hP : va_P D cl ws H) (hD : va_D A0 ws) (hS : va_S A0 H0 H locs) (hA : ∀ q, H0.size ≤ q → A0 q) (is : List Nat) (hn : va_nd is = true) (hs : is.map (fun i => ws[i]?) = wc.map some) : va_P D cl wc H ∧ va_D A0 wc ∧ ∀ q, va_A wc H.size q → A0 q :=
  ⟨hP.sub is (zz_fm hs), hD.sub is hn hs, va_free hD hS hA is hs⟩
theorem zc_part {A0 : Nat → Prop} {D : va_G} {cl : List vw_C} {X cx pl : va_W} {H0 H : Heap} {locs : List Loc} (hP : va_P D cl (X ++ pl) H) (hD : va_D A0 (X ++ pl)) (hS : va_S A0 H0 H locs) (hA : ∀ q, H0.size ≤ q → A0 q) (is : List Nat) (hn : va_nd is = true) (hs : is.map (fun i => X[i]?) = cx.map some) : va_P D cl (cx ++ pl) H ∧ va_D A0 (cx ++ pl) ∧ ∀ q, va_A (cx ++ pl) H.size q → A0 q :=
  ⟨hP.part is hs, hD.part is hn hs, va_freeP hD hS hA is hs⟩
theorem zq_sub {A0 : Nat → Prop} {D : va_G} {cl : List vw_C} {ws wc : va_W} {H : Heap} (hP : va_P D cl ws H) (hD : va_D A0 ws) (is : List Nat) (hn : va_nd is = true) (hs : is.map (fun i => ws[i]?) = wc.map some) : va_P D cl wc H ∧ va_D A0 wc :=
  ⟨hP.sub is (zz_fm hs), hD.sub is hn hs⟩
theorem zq_part {A0 : Nat → Prop} {D : va_G} {cl : List vw_C} {X cx pl : va_W} {H : Heap} (hP : va_P D cl (X ++ pl) H) (hD : va_D A0 (X ++ pl)) (is : List Nat) (hn : va_nd is = true) (hs : is.map (fun i => X[i]?) = cx.map some) : va_P D cl (cx ++ pl) H ∧ va_D A0 (cx ++ pl) :=
  ⟨hP.part is hs, hD.part is hn hs⟩
abbrev zPD (D : va_G) (cl : List vw_C) (A : Nat → Prop) (ws : va_W) (H : Heap) : Prop := va_P D cl ws H ∧ va_D A ws
theorem zz_fr {W2 : va_W} {n : Nat} (hW : W2.length = n) : ∀ is : List Nat, is.all (fun i => Nat.blt i n) = true → is.map (fun i => W2[i]?) = (is.filterMap (fun i => W2[i]?)).map some
  | [], _ => rfl
  | i :: is, h => by
    have h1 : (Nat.blt i n && is.all (fun i => Nat.blt i n)) = true := h
    rw [Bool.and_eq_true] at h1
    have hi : i < W2.length := by rw [hW]; exact Nat.blt_eq.mp h1.1
    have e : W2[i]? = some W2[i] := List.getElem?_eq_getElem hi
    rw [List.map_cons, List.filterMap_cons, e]
    show some W2[i] :: is.map (fun i => W2[i]?) = some W2[i] :: (is.filterMap (fun i => W2[i]?)).map some
    rw [zz_fr hW is h1.2]
theorem zj_od {W2 wr w1 : va_W} {isR isO od : List Nat} {n : Nat} (hW : W2.length = n) (hr : isR.map (fun i => W2[i]?) = wr.map some) (hb : isO.map (fun i => W2[i]?) = w1.map some) (hod : od.map (fun i => (isR ++ isO)[i]?) = (List.range n).map some) : od.map (fun i => (wr ++ w1)[i]?) = W2.map some := by
  have e : (isR ++ isO).map (fun i => W2[i]?) = (wr ++ w1).map some := by rw [List.map_append, List.map_append, hr, hb]
  have e1 : ∀ i k : Nat, (isR ++ isO)[i]? = some k → (wr ++ w1)[i]? = W2[k]? := by
    intro i k h
    have h2 := congrArg (fun l => l[i]?) e
    simp only [List.getElem?_map, h, Option.map_some] at h2
    cases h3 : (wr ++ w1)[i]? with
    | none => rw [h3] at h2; cases h2
    | some q => rw [h3] at h2; exact (Option.some.inj h2).symm
  refine List.ext_getElem? (fun k => ?_)
  have h2 := congrArg (fun l => l[k]?) hod
  simp only [List.getElem?_map] at h2 ⊢
  rcases Nat.lt_or_ge k n with hk | hk
  · rw [List.getElem?_range hk] at h2
    cases h3 : od[k]? with
    | none => rw [h3] at h2; cases h2
    | some i =>
      rw [h3] at h2
      have h4 : (isR ++ isO)[i]? = some k := Option.some.inj h2
      have h5 : W2[k]? = some W2[k] := List.getElem?_eq_getElem (by omega)
      show some ((wr ++ w1)[i]?) = Option.map some (W2[k]?)
      rw [e1 i k h4, h5]
      rfl
  · have h6 : (List.range n)[k]? = none := List.getElem?_eq_none (by rw [List.length_range]; exact hk)
    have h7 : W2[k]? = none := List.getElem?_eq_none (by omega)
    rw [h6] at h2
    rw [h7]
    cases h3 : od[k]? with
    | none => rfl
    | some i => rw [h3] at h2; cases h2
/-- picked cells; two names for one thing, so that Lean never holds two worlds against each other as wholes -/
def zg1 : va_W → Nat → Option (Nat × va_E)
  | [], _ => none
  | a :: _, 0 => some a
  | _ :: l, n + 1 => zg1 l n
def zg2 : va_W → Nat → Option (Nat × va_E)
  | [], _ => none
  | a :: _, 0 => some a
  | _ :: l, n + 1 => zg2 l n
def zp1 (X : va_W) : List Nat → List (Option (Nat × va_E))
  | [] => []
  | i :: is => zg1 X i :: zp1 X is
def zp2 (X : va_W) : List Nat → List (Option (Nat × va_E))
  | [] => []
  | i :: is => zg2 X i :: zp2 X is
theorem zg1_e : ∀ (l : va_W) (n : Nat), zg1 l n = l[n]?
  | [], _ => rfl
  | _ :: _, 0 => rfl
  | _ :: l, n + 1 => zg1_e l n
theorem zg2_e : ∀ (l : va_W) (n : Nat), zg2 l n = l[n]?
  | [], _ => rfl
  | _ :: _, 0 => rfl
  | _ :: l, n + 1 => zg2_e l n
theorem zp1_e (X : va_W) : ∀ is : List Nat, zp1 X is = is.map (fun i => X[i]?)
  | [] => rfl
  | i :: is => by
    show zg1 X i :: zp1 X is = X[i]? :: is.map (fun i => X[i]?)
    rw [zg1_e, zp1_e X is]
theorem zp2_e (X : va_W) : ∀ is : List Nat, zp2 X is = is.map (fun i => X[i]?)
  | [] => rfl
  | i :: is => by
    show zg2 X i :: zp2 X is = X[i]? :: is.map (fun i => X[i]?)
    rw [zg2_e, zp2_e X is]
theorem zk_d {isR isC : List Nat} (h : isR.all (fun i => !isC.contains i) = true) : ∀ i ∈ isR, i ∉ isC := fun i hi hc => by
  have g := List.all_eq_true.mp h i hi
  simp [hc] at g
section
variable {A0 : Nat → Prop} {D : va_G} {cl : List vw_C} {X cx w1 W2 pl pl1 : va_W} {H H1 : Heap}
theorem zk (hP : va_P D cl X H) (hD : va_D A0 X) (isC isR isQ isO od : List Nat) (n : Nat) (hC : isC.map (fun i => X[i]?) = cx.map some) (ha : zp1 X isR = zp2 W2 isQ) (hb : isO.map (fun i => W2[i]?) = w1.map some) (hW : W2.length = n) (hq : isQ.all (fun i => Nat.blt i n) = true) (hn : va_nd isR = true) (hdis : isR.all (fun i => !isC.contains i) = true) (hod : od.map (fun i => (isQ ++ isO)[i]?) = (List.range n).map some) (hno : va_nd od = true)
    (hk : ∀ q : Nat, q < H.size → ¬ va_A cx H.size q → H1[q]? = H[q]?) (hF : ∀ q, va_A cx H.size q → A0 q) (hP1 : va_P D cl w1 H1) (hD1 : va_D (va_A cx H.size) w1) : va_P D cl W2 H1 ∧ va_D A0 W2 := by
  have hr := zz_fr hW isQ hq
  rw [zp1_e, zp2_e] at ha
  have hd2 : ∀ i ∈ isR, i ∉ isC := zk_d hdis
  obtain ⟨a, b⟩ := va_join hP hD isC isR hC (ha.trans hr) hn hd2 hk hF hP1 hD1
  exact zq_sub a b od hno (zj_od hW hr hb hod)
end
end
