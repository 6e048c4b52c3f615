section
/-! what the tables say and no word carries: the nest, the casts, the arrays of objects -/
def zXN (U : State) : Prop := va_Nw (.methodLinkNest "ScaleShop$Row" 88 ⟨"ScaleShop", "isPlace", "(II)Z"⟩ "ScaleShop") U ∧ va_Nw (.castable "ScaleShop$Step" "java/lang/Object") U ∧ va_AO "ScaleShop$Feature" U ∧ va_AO "java/lang/Object" U
theorem zXN_c (a : Array Value) (U : State) (g : JFrame) (mk : MethodId) (h : zXN U) : zXN (U.calling g mk a) :=
  ⟨va_Nw.same (u := U) (U := U.calling g mk a) rfl rfl h.1, va_Nw.same (u := U) (U := U.calling g mk a) rfl rfl h.2.1, va_AO.moved (u := U) (U := U.calling g mk a) (Vm.Alike.refl U.vm) h.2.2.1, va_AO.moved (u := U) (U := U.calling g mk a) (Vm.Alike.refl U.vm) h.2.2.2⟩
theorem zXN_w {s U : State} (hW : s.WarmedH U.vm) (h : zXN s) : zXN U := ⟨va_Nw.warmM hW h.1, va_Nw.warmC hW h.2.1, va_AO.moved hW.alike h.2.2.1, va_AO.moved hW.alike h.2.2.2⟩
theorem zPS2 {s : State} {H : Heap} {D : va_G} {cl : List vw_C} {tys : List (ClassId × FieldType)} {w : va_W} {A : Nat → Prop} {av : List Value} (hP : va_P D cl w H) (hD : va_D A w) (hK : va_K D cl tys s) (hX : zXN s) : PreS s H (va_Pc av (zPre D cl tys w H.size zXN)) av :=
  ⟨zBlind zXN_c, zAt hP hD hK (fun _ _ hW => zXN_w hW hX)⟩
theorem zPV2 {s : State} {H : Heap} {D : va_G} {cl : List vw_C} {tys : List (ClassId × FieldType)} {w : va_W} {A : Nat → Prop} {b q0 ci : Nat} {C : String} {T : u_T} {N : Nat} {fs : List Value} {As : List Value} (hP : va_P D cl w H) (hD : va_D A w) (hK : va_K D cl tys s) (hX : zXN s) (hc : cl[ci]? = some (C, T, N)) (he : w[q0]? = some (b, .inr (ci, fs))) : PreV s H C b (va_Pc (.ref b :: As) (zPre D cl tys w H.size zXN)) As :=
  ⟨zBlind zXN_c, va_recv hK hP hc he, zAt hP hD hK (fun _ _ hW => zXN_w hW hX)⟩
/-! places and edges, by whole numbers -/
def pl (v : Int32) : Prop := 0 ≤ v.toInt ∧ v.toInt ≤ 1000
def cr (a1 a2 b1 b2 x y : Int) : Int := (b1 - a1) * (y - a2) - (b2 - a2) * (x - a1)
theorem mulB {u v : Int} (h1 : -1000 ≤ u) (h2 : u ≤ 1000) (h3 : -1000 ≤ v) (h4 : v ≤ 1000) : -1000000 ≤ u * v ∧ u * v ≤ 1000000 := by
  have a := Int.mul_nonneg (show 0 ≤ 1000 - u by omega) (show 0 ≤ 1000 - v by omega)
  have b := Int.mul_nonneg (show 0 ≤ 1000 + u by omega) (show 0 ≤ 1000 + v by omega)
  have c := Int.mul_nonneg (show 0 ≤ 1000 - u by omega) (show 0 ≤ 1000 + v by omega)
  have d := Int.mul_nonneg (show 0 ≤ 1000 + u by omega) (show 0 ≤ 1000 - v by omega)
  simp only [Int.sub_mul, Int.mul_sub, Int.add_mul, Int.mul_add] at a b c d
  omega
theorem crB {a1 a2 b1 b2 x y : Int} (h : (0 ≤ a1 ∧ a1 ≤ 1000) ∧ (0 ≤ a2 ∧ a2 ≤ 1000) ∧ (0 ≤ b1 ∧ b1 ≤ 1000) ∧ (0 ≤ b2 ∧ b2 ≤ 1000) ∧ (0 ≤ x ∧ x ≤ 1000) ∧ (0 ≤ y ∧ y ≤ 1000)) : -2000000 ≤ cr a1 a2 b1 b2 x y ∧ cr a1 a2 b1 b2 x y ≤ 2000000 := by
  have p := mulB (u := b1 - a1) (v := y - a2) (by omega) (by omega) (by omega) (by omega)
  have q := mulB (u := b2 - a2) (v := x - a1) (by omega) (by omega) (by omega) (by omega)
  unfold cr; omega
theorem crI {a1 a2 b1 b2 x y : Int32} (h1 : pl a1) (h2 : pl a2) (h3 : pl b1) (h4 : pl b2) (h5 : pl x) (h6 : pl y) : (b1 - a1) * (y - a2) - (b2 - a2) * (x - a1) = iI (cr a1.toInt a2.toInt b1.toInt b2.toInt x.toInt y.toInt) := by
  unfold pl at h1 h2 h3 h4 h5 h6
  have e1 : (b1 - a1).toInt = b1.toInt - a1.toInt := fb_subI (by omega) (by omega)
  have e2 : (y - a2).toInt = y.toInt - a2.toInt := fb_subI (by omega) (by omega)
  have e3 : (b2 - a2).toInt = b2.toInt - a2.toInt := fb_subI (by omega) (by omega)
  have e4 : (x - a1).toInt = x.toInt - a1.toInt := fb_subI (by omega) (by omega)
  have p := mulB (u := b1.toInt - a1.toInt) (v := y.toInt - a2.toInt) (by omega) (by omega) (by omega) (by omega)
  have q := mulB (u := b2.toInt - a2.toInt) (v := x.toInt - a1.toInt) (by omega) (by omega) (by omega) (by omega)
  have f1 : ((b1 - a1) * (y - a2)).toInt = (b1.toInt - a1.toInt) * (y.toInt - a2.toInt) := by rw [fb_mulI (by rw [e1, e2]; omega) (by rw [e1, e2]; omega), e1, e2]
  have f2 : ((b2 - a2) * (x - a1)).toInt = (b2.toInt - a2.toInt) * (x.toInt - a1.toInt) := by rw [fb_mulI (by rw [e3, e4]; omega) (by rw [e3, e4]; omega), e3, e4]
  refine iI_of ?_
  rw [fb_subI (by rw [f1, f2]; omega) (by rw [f1, f2]; omega), f1, f2]
  rfl
def onS (a1 a2 b1 b2 x y : Int) : Prop := cr a1 a2 b1 b2 x y = 0 ∧ min a1 b1 ≤ x ∧ x ≤ max a1 b1 ∧ min a2 b2 ≤ y ∧ y ≤ max a2 b2
/-- two edges have a point in common, as the class tells it -/
def mtC (a1 a2 b1 b2 c1 c2 d1 d2 : Int) : Prop :=
  ¬ ((a1 < c1 ∧ b1 < c1 ∧ a1 < d1 ∧ b1 < d1) ∨ (c1 < a1 ∧ c1 < b1 ∧ d1 < a1 ∧ d1 < b1)) ∧ ¬ ((a2 < c2 ∧ b2 < c2 ∧ a2 < d2 ∧ b2 < d2) ∨ (c2 < a2 ∧ c2 < b2 ∧ d2 < a2 ∧ d2 < b2)) ∧
  ¬ ((0 < cr a1 a2 b1 b2 c1 c2 ∧ 0 < cr a1 a2 b1 b2 d1 d2) ∨ (cr a1 a2 b1 b2 c1 c2 < 0 ∧ cr a1 a2 b1 b2 d1 d2 < 0)) ∧ ¬ ((0 < cr c1 c2 d1 d2 a1 a2 ∧ 0 < cr c1 c2 d1 d2 b1 b2) ∨ (cr c1 c2 d1 d2 a1 a2 < 0 ∧ cr c1 c2 d1 d2 b1 b2 < 0))
def nxt (n i : Nat) : Nat := if i + 1 < n then i + 1 else 0
def prv (n i : Nat) : Nat := if 0 < i then i - 1 else n - 1
def edg (n : Nat) (rg : Int32) : Nat := if n < 2 then 0 else if rg.toInt = 0 then n - 1 else n
def prt (n : Nat) (rg : Int32) : Nat := if n = 1 then 1 else edg n rg
theorem nxt_lt {n i : Nat} (h : 0 < n) : nxt n i < n := by unfold nxt; split <;> omega
theorem prv_lt {n i : Nat} (h : i < n) : prv n i < n := by unfold prv; split <;> omega
theorem edg_le (n : Nat) (rg : Int32) : edg n rg ≤ n := by unfold edg; split <;> (try split) <;> omega
theorem prt_le (n : Nat) (rg : Int32) : prt n rg ≤ n := by unfold prt; split; omega; exact edg_le n rg
/-- all corners are places -/
def pls (n : Nat) (X Y : Nat → Int32) : Prop := ∀ k, k < n → pl (X k) ∧ pl (Y k)
def eOn (n : Nat) (X Y : Nat → Int32) (i : Nat) (x y : Int) : Prop := onS (X i).toInt (Y i).toInt (X (nxt n i)).toInt (Y (nxt n i)).toInt x y
def eMt (n : Nat) (X Y : Nat → Int32) (i : Nat) (m : Nat) (U V : Nat → Int32) (j : Nat) : Prop := mtC (X i).toInt (Y i).toInt (X (nxt n i)).toInt (Y (nxt n i)).toInt (U j).toInt (V j).toInt (U (nxt m j)).toInt (V (nxt m j)).toInt
def eCr (n : Nat) (X Y : Nat → Int32) (i : Nat) (x y : Int) : Int := cr (X i).toInt (Y i).toInt (X (nxt n i)).toInt (Y (nxt n i)).toInt x y
theorem crBp {a1 a2 b1 b2 x y : Int32} (h1 : pl a1) (h2 : pl a2) (h3 : pl b1) (h4 : pl b2) (h5 : pl x) (h6 : pl y) : -2000000 ≤ cr a1.toInt a2.toInt b1.toInt b2.toInt x.toInt y.toInt ∧ cr a1.toInt a2.toInt b1.toInt b2.toInt x.toInt y.toInt ≤ 2000000 := crB ⟨h1, h2, h3, h4, h5, h6⟩
theorem zn_eq {a b : Nat} (h : a = b) : nI a = nI b := by rw [h]
theorem zb_nar {r : Int32} (h : r = 0 ∨ r = 1) : narrow .boolean (.int r) = .int r := by rcases h with rfl | rfl <;> rfl
theorem zb_fit {r : Int32} (h : r = 0 ∨ r = 1) : fits .boolean (.int r) = true := by rcases h with rfl | rfl <;> rfl
end
