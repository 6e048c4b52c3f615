/-! the list of steps: what its methods want of the start; rows for its instructions -/
abbrev zTyO (cI cZ cF cO : ClassId) : List (ClassId × FieldType) := [(cI, .int), (cZ, .boolean), (cF, .object "ScaleShop$Feature"), (cO, .object "java/lang/Object")]
def zE0 (e0 : Nat) (A : Nat → Prop) (U : State) (H : Heap) : Prop := ∃ cell : Cell, H[e0]? = some cell ∧ cell.slots.size = 0 ∧ U.isArrayOf cell (.object "java/lang/Object") ∧ ¬ A e0
def zXL (e0 mi : Nat) (A : Nat → Prop) (U : State) : Prop := zXN U ∧ va_Z "java/util/ArrayList" "DEFAULTCAPACITY_EMPTY_ELEMENTDATA" "[Ljava/lang/Object;" (.ref e0) A U U.heap ∧ va_Dc U ∧ va_Mi "[Ljava/lang/Object;" mi U ∧ zE0 e0 A U U.heap
theorem zE0_k {e0 : Nat} {A A1 : Nat → Prop} {s U : State} {H : Heap} {locs : List Loc} (h : zE0 e0 A s s.heap) (hS : va_S A s.heap H locs) (hF : ∀ q, A1 q → A q) (hW : s.vm.Alike U.vm) : zE0 e0 A1 U H := by
  obtain ⟨cell, h1, h2, h3, h4⟩ := h
  exact ⟨cell, by rw [hS.2.1 e0 (Array.getElem?_eq_some_iff.mp h1).1 h4]; exact h1, h2, State.isArrayOf_alike hW h3, fun g => h4 (hF e0 g)⟩
theorem zXL_c {e0 mi : Nat} {A : Nat → Prop} (a : Array Value) (U : State) (g : JFrame) (mk : MethodId) (h : zXL e0 mi A U) : zXL e0 mi A (U.calling g mk a) :=
  ⟨zXN_c a U g mk h.1, va_Z.moved (u := U) (U := U.calling g mk a) (Vm.Alike.refl U.vm) h.2.1, va_Dc.moved (u := U) (U := U.calling g mk a) (Vm.Alike.refl U.vm) h.2.2.1, va_Mi.moved (u := U) (U := U.calling g mk a) (Vm.Alike.refl U.vm) h.2.2.2.1, zE0_k (U := U.calling g mk a) h.2.2.2.2 (va_S.rf : va_S A U.heap U.heap []) (fun _ h => h) (Vm.Alike.refl U.vm)⟩
theorem zXL_at {e0 mi : Nat} {A A1 : Nat → Prop} {s U : State} {H : Heap} {locs : List Loc} (h : zXL e0 mi A s) (hS : va_S A s.heap H locs) (hF : ∀ q, A1 q → A q) (hU : U.heap = H) (hW : s.WarmedH U.vm) : zXL e0 mi A1 U := by
  refine ⟨zXN_w hW h.1, ?_, va_Dc.moved hW.alike h.2.2.1, va_Mi.moved hW.alike h.2.2.2.1, ?_⟩
  · rw [hU]; exact ((va_Z.kept h.2.1 hS.2.1).narrow hF).moved hW.alike
  · rw [hU]; exact zE0_k h.2.2.2.2 hS hF hW.alike
theorem zPSL {s : State} {H : Heap} {D : va_G} {cl : List vw_C} {tys : List (ClassId × FieldType)} {w : va_W} {A A1 A2 : Nat → Prop} {av : List Value} {e0 mi : Nat} {locs : List Loc} (hP : va_P D cl w H) (hD : va_D A1 w) (hK : va_K D cl tys s) (hX : zXL e0 mi A s) (hS : va_S A s.heap H locs) (hF : ∀ q, A2 q → A q) : PreS s H (va_Pc av (zPre D cl tys w H.size (zXL e0 mi A2))) av :=
  ⟨zBlind zXL_c, zAt hP hD hK (fun _ hU hW => zXL_at hX hS hF hU hW)⟩
theorem zPVL {s : State} {H : Heap} {D : va_G} {cl : List vw_C} {tys : List (ClassId × FieldType)} {w : va_W} {A A1 A2 : Nat → Prop} {b q0 ci : Nat} {q : vw_C} {fs : List Value} {As : List Value} {e0 mi : Nat} {locs : List Loc} (hP : va_P D cl w H) (hD : va_D A1 w) (hK : va_K D cl tys s) (hX : zXL e0 mi A s) (hS : va_S A s.heap H locs) (hF : ∀ q, A2 q → A q) (hc : cl[ci]? = some q) (he : w[q0]? = some (b, .inr (ci, fs))) : PreV s H q.1 b (va_Pc (.ref b :: As) (zPre D cl tys w H.size (zXL e0 mi A2))) As :=
  ⟨zBlind zXL_c, va_recv hK hP hc he, zAt hP hD hK (fun _ hU hW => zXL_at hX hS hF hU hW)⟩
section LS
variable {p : Program} {l : Launch} {e₀ : Env} {R : Room} {s : State} {m : MethodId} {args : Array Value} {below : List Frame} {meth : Method} {c : Code} {H : Heap} {locs : List Loc} {cells slots : Nat} {Q : State → Prop}
variable {cc : ByteArray} {pc : Nat} {ls : Array Slot} {rest : List Value} {D : va_G} {cl : List vw_C} {A : Nat → Prop} {a : Nat} {tys : List (ClassId × FieldType)} {ws : va_W} {H0 : Heap}
theorem z_alen0 {e0 : Nat} (hexec : p.tables.exec = Jvm.exec) (hb : c.code = cc) (hE : zE0 e0 A s s.heap) (hS : va_S A s.heap H locs) (hdg : decode cc pc = .ok (.arraylength, 1))
    (kk : W p l e₀ R s m args below meth c H locs cells slots Q (F0 m (pc + 1) ls (.int 0 :: rest))) : W p l e₀ R s m args below meth c H locs cells slots Q (F0 m pc ls (.ref e0 :: rest)) := by
  obtain ⟨cell, h1, h2, h3, h4⟩ := hE
  exact W.alen (n := 0) hexec hb (by rw [hS.2.1 e0 (Array.getElem?_eq_some_iff.mp h1).1 h4]; exact h1) h3 (by rw [h2]; rfl) rfl rfl hdg kk
theorem z_newq (hexec : p.tables.exec = Jvm.exec) (hb : c.code = cc) {own C : String} {index : Nat} (hown : s.vm.findClass own = some m.cls) (hclink : (Cond.classLink own index C).before args s = true) (hover : va_AO C s) (hK : va_K D cl tys s) (hP : va_P D cl ws H) (hD : va_D A ws) (hS : va_S A H0 H locs) (hA : ∀ q, H0.size ≤ q → A q)
    {n : Int32} {N' : Nat} {cA : ClassId} (t0 : Nat) (ht : tys[t0]? = some (cA, .object C)) (hn : ¬ n < 0) (hN : n.toNatClampNeg = N') (hbytes : N' * 4 ≤ 536870912) (hcells : cells + 1 ≤ R.cells) (hslots : slots + N' ≤ R.slots) (hdg : decode cc pc = .ok (.anewarray index, 3))
    (kk : ∀ (q : Nat) (H1 : Heap), va_P D cl (ws ++ [(q, .inl (cA, N', .inr (.inr (.inr (.inr (fun _ => none))))))]) H1 → va_D A (ws ++ [(q, .inl (cA, N', .inr (.inr (.inr (.inr (fun _ => none))))))]) → va_S A H0 H1 locs →
      W p l e₀ R s m args below meth c H1 locs (cells + 1) (slots + N') Q (F0 m (pc + 3) ls (.ref q :: rest))) : W p l e₀ R s m args below meth c H locs cells slots Q (F0 m pc ls (.int n :: rest)) := by
  refine va_newq hexec hb hown hclink hover hK hP hD hS hA hn hN hbytes hcells hslots hdg (fun q cB H1 hK1 hP1 hD1 hS1 => ?_)
  have e1 : (tys ++ [(cB, .object C)])[tys.length]? = some (cB, FieldType.object C) := by rw [List.getElem?_append_right (Nat.le_refl _)]; simp
  have e2 : cB = cA := zz_sameArr (hK1.2 _ _ e1).2 (hK.2 t0 _ ht).2
  subst e2
  exact kk q H1 hP1 hD1 hS1
theorem z_aastO (hexec : p.tables.exec = Jvm.exec) (hb : c.code = cc) (hK : va_K D cl tys s) (hP : va_P D cl ws H) (hD : va_D A ws) (hS : va_S A H0 H locs) (q0 t0 qk ci : Nat) {E : String} {cA : ClassId} {r : vw_C} {n v : Nat} {vs : List Value} {f : Nat → Option Nat} (ha : ws[q0]? = some (a, .inl (cA, n, .inr (.inr (.inr (.inr f)))))) (ht : tys[t0]? = some (cA, .object E)) (hca : va_Nw (.castable r.1 E) s) (hv : ws[qk]? = some (v, .inr (ci, vs))) (hc : cl[ci]? = some r) {i : Int32} {e : Nat} (hi : i = nI e) (hlt : e < n) (hn : n < 2147483648) (hdg : decode cc pc = .ok (.aastore, 1))
    (kk : ∀ (H1 : Heap) (locs1 : List Loc), va_P D cl (ws.set q0 (a, .inl (cA, n, .inr (.inr (.inr (.inr (va_up f e (some v)))))))) H1 → va_D A (ws.set q0 (a, .inl (cA, n, .inr (.inr (.inr (.inr (va_up f e (some v)))))))) → va_S A H0 H1 locs1 → W p l e₀ R s m args below meth c H1 locs1 cells slots Q (F0 m (pc + 1) ls rest)) : W p l e₀ R s m args below meth c H locs cells slots Q (F0 m pc ls (.ref v :: .int i :: .ref a :: rest)) := by
  subst hi
  refine va_astqO hexec hb hK hP hD hS q0 t0 qk ci ha ht hca hv hc (vp_in_nI hlt hn) hdg (fun H1 locs1 h1 h2 h3 => ?_)
  rw [nI_clamp (by omega)] at h1 h2; exact kk H1 locs1 h1 h2 h3
theorem z_aastN (hexec : p.tables.exec = Jvm.exec) (hb : c.code = cc) (hK : va_K D cl tys s) (hP : va_P D cl ws H) (hD : va_D A ws) (hS : va_S A H0 H locs) (q0 t0 : Nat) {C : String} {cA : ClassId} {n : Nat} {f : Nat → Option Nat} (ha : ws[q0]? = some (a, .inl (cA, n, .inr (.inr (.inr (.inr f)))))) (ht : tys[t0]? = some (cA, .object C)) {i : Int32} {e : Nat} (hi : i = nI e) (hlt : e < n) (hn : n < 2147483648) (hdg : decode cc pc = .ok (.aastore, 1))
    (kk : ∀ (H1 : Heap) (locs1 : List Loc), va_P D cl (ws.set q0 (a, .inl (cA, n, .inr (.inr (.inr (.inr (va_up f e none))))))) H1 → va_D A (ws.set q0 (a, .inl (cA, n, .inr (.inr (.inr (.inr (va_up f e none))))))) → va_S A H0 H1 locs1 → W p l e₀ R s m args below meth c H1 locs1 cells slots Q (F0 m (pc + 1) ls rest)) : W p l e₀ R s m args below meth c H locs cells slots Q (F0 m pc ls (.null :: .int i :: .ref a :: rest)) := by
  subst hi
  refine va_astqN hexec hb hK hP hD hS q0 t0 ha ht (vp_in_nI hlt hn) hdg (fun H1 locs1 h1 h2 h3 => ?_)
  rw [nI_clamp (by omega)] at h1 h2; exact kk H1 locs1 h1 h2 h3
theorem z_cellA {cO : ClassId} {x : vp_A} {q0 t0 : Nat} {C nm : String} (hK : va_K D cl tys s) (hP : va_P D cl ws H) (ha : ws[q0]? = some (a, .inl (cO, x))) (ht : tys[t0]? = some (cO, .object C)) (e : "[" ++ (FieldType.object C).toString = nm) : ∃ cell : Cell, H[a]? = some cell ∧ cell.vm.isStatics = false ∧ s.vm.findClass nm = some cell.cls := by
  refine ⟨vp_cell cO x, hP q0 _ ha, ?_, ?_⟩
  · obtain ⟨n, f | f | f | f | f⟩ := x <;> rfl
  · rw [va_nmO (hK.2 t0 _ ht).2 e]
    obtain ⟨n, f | f | f | f | f⟩ := x <;> rfl
theorem z_cellR {i b : Nat} {r : vw_C} {ci : Nat} {vs : List Value} (hK : va_K D cl tys s) (hP : va_at D cl (b, .inr (ci, vs)) H) (hc : cl[ci]? = some r) : ∃ cell : Cell, H[b]? = some cell ∧ cell.vm.isStatics = false ∧ s.vm.findClass r.1 = some cell.cls := by
  obtain ⟨r', hr', cellV, g1, g2, g3, g4⟩ := hP
  cases hr'.symm.trans hc
  exact ⟨cellV, g1, by rw [g3]; rfl, by rw [g2]; exact (hK.1 ci r hc).2.1⟩
end LS
theorem zn_shr {n : Nat} (h : n < 2147483648) : nI n >>> ((1 : Int32) &&& 31) = nI (n / 2) := by
  have k := pk_shrN (n := n) h ((1 : Int32) &&& 31) 1 (by decide)
  rw [Nat.pow_one] at k
  exact k
theorem z_asg {s : State} (h : va_Nw (.castable "ScaleShop$Step" "java/lang/Object") s) : ∀ comp c0 : ClassId, s.vm.findClass "java/lang/Object" = some comp → s.vm.findClass "ScaleShop$Step" = some c0 → s.vm.assignable c0 comp = true := by
  intro comp c0 h1 h2
  obtain ⟨c1, t1, f1, f2, f3⟩ := Cond.castable_spec (va_Nw.use (A := #[]) rfl h)
  cases f1.symm.trans h2
  cases f2.symm.trans h1
  exact f3
section LC
variable {p : Program} {l : Launch} {e₀ : Env} {R : Room} {s : State} {m : MethodId} {args : Array Value} {below : List Frame} {meth : Method} {c : Code} {H : Heap} {locs : List Loc} {cells slots : Nat} {Q : State → Prop}
variable {cc : ByteArray} {pc : Nat} {ls : Array Slot} {rest : List Value} {D : va_G} {cl : List vw_C} {A : Nat → Prop} {a : Nat} {tys : List (ClassId × FieldType)} {ws : va_W} {H0 : Heap}
theorem z_copyq (hexec : p.tables.exec = Jvm.exec) (hb : c.code = cc) (hml : c.maxLocals = ls.size) {own : String} {index : Nat} (hown : s.vm.findClass own = some m.cls) (hlink : (Cond.methodLink own index arraycopyName).before args s = true) (hnat : (Cond.native arraycopyName).before args s = true) (hstat : (Cond.static arraycopyName).before args s = true) (hini : (Cond.initialized "java/lang/System").before args s = true)
    (hK : va_K D cl tys s) (hP : va_P D cl ws H) (hD : va_D A ws) (hS : va_S A H0 H locs) (q0 q1 t0 t1 : Nat) {a0 : Nat} {c0 c1 : ClassId} {n0 n1 : Nat} {f g : Nat → Option Nat} {E0 E1 C : String} (ha0 : ws[q0]? = some (a0, .inl (c0, n0, .inr (.inr (.inr (.inr f)))))) (ha1 : ws[q1]? = some (a, .inl (c1, n1, .inr (.inr (.inr (.inr g)))))) (ht0 : tys[t0]? = some (c0, .object E0)) (ht1 : tys[t1]? = some (c1, .object E1))
    {n : Int32} {nn : Nat} (hn : n = nI nn) (hn1 : nn < 2147483648) (hn2 : 0 ≤ nn) (h4 : nn ≤ n0) (h5 : nn ≤ n1) (hel : ∀ i : Nat, i < nn → ∀ y : Nat, f i = some y → ∃ cellV : Cell, H[y]? = some cellV ∧ cellV.vm.isStatics = false ∧ s.vm.findClass C = some cellV.cls) (hasg : ∀ comp c0 : ClassId, s.vm.findClass E1 = some comp → s.vm.findClass C = some c0 → s.vm.assignable c0 comp = true)
    (hframes : 1 ≤ R.frames) (hlocals : (rest.map fun v => v.category).sum + 24 ≤ R.locals) (hdg : decode cc pc = .ok (.invokestatic index, 3))
    (kk : ∀ (H1 : Heap) (locs1 : List Loc), va_P D cl (ws.set q1 (a, .inl (c1, n1, .inr (.inr (.inr (.inr (va_cpy f g 0 0 nn))))))) H1 → va_D A (ws.set q1 (a, .inl (c1, n1, .inr (.inr (.inr (.inr (va_cpy f g 0 0 nn))))))) → va_S A H0 H1 locs1 → W p l e₀ R s m args below meth c H1 locs1 cells slots Q (F0 m (pc + 3) ls rest)) : W p l e₀ R s m args below meth c H locs cells slots Q (F0 m pc ls (.int n :: .int 0 :: .ref a :: .int 0 :: .ref a0 :: rest)) := by
  subst hn
  have ec : (nI nn).toNatClampNeg = nn := nI_clamp (by omega)
  have e0 : (0 : Int32).toNatClampNeg = 0 := by decide
  have hw : nativeFrameWords "java/lang/System" "arraycopy" 5 ≤ 13 := by decide
  refine va_copyq hexec hb hml hown hlink hnat hstat hini hK hP hD hS q0 q1 t0 t1 ha0 ha1 ht0 ht1 (by decide) (by decide) (nI_pos (by omega)) (by rw [ec, e0]; omega) (by rw [ec, e0]; omega) (fun i hi y hy => hel i (by rw [ec] at hi; exact hi) y (by rw [e0, Nat.zero_add] at hy; exact hy)) hasg hframes (by omega) hdg (fun H1 locs1 h1 h2 h3 => ?_)
  rw [ec, e0] at h1 h2
  exact kk H1 locs1 h1 h2 h3
end LC
theorem z_elS {s : State} {D : va_G} {tys : List (ClassId × FieldType)} {X : va_W} {L : List Nat} {f : Nat → va_E} {H : Heap} {n : Nat} {SA : Nat → Option Nat} (hK : va_K D classes tys s) (hP : va_P D classes (X ++ va_pl L f) H) (h : ∀ i, i < n → ∃ y vs, SA i = some y ∧ y ∈ L ∧ f y = .inr (11, vs)) :
    ∀ i : Nat, i < n → ∀ y : Nat, SA i = some y → ∃ cellV : Cell, H[y]? = some cellV ∧ cellV.vm.isStatics = false ∧ s.vm.findClass "ScaleShop$Step" = some cellV.cls := by
  intro i hi y hy
  obtain ⟨y', vs, h1, h2, h3⟩ := h i hi
  cases h1.symm.trans hy
  have h4 := vaP_mem.mp hP (y, f y) (List.mem_append.mpr (Or.inr (pl_mem.mpr ⟨h2, rfl⟩)))
  rw [h3] at h4
  exact z_cellR (i := 0) hK h4 rfl
theorem mw_acopy : (Jvm.Cond.native ({ cls := "java/lang/System", name := "arraycopy", desc := "(Ljava/lang/Object;ILjava/lang/Object;II)V" } : Jvm.MethodName)) ∈ ws0 := zz_m 488 (by decide +kernel) (by decide +kernel)
theorem mw_getCn : (Jvm.Cond.native ({ cls := "java/lang/Object", name := "getClass", desc := "()Ljava/lang/Class;" } : Jvm.MethodName)) ∈ ws0 := zz_m 850 (by decide +kernel) (by decide +kernel)
theorem mw_same_modCount : (Jvm.Cond.sameField "java/util/ArrayList" "java/util/AbstractList" "modCount" "I") ∈ ws0 := zz_m 300 (by decide +kernel) (by decide +kernel)
theorem mw_getCs : (Jvm.Cond.selects "[Ljava/lang/Object;" ({ cls := "java/lang/Object", name := "getClass", desc := "()Ljava/lang/Class;" } : Jvm.MethodName) ({ cls := "java/lang/Object", name := "getClass", desc := "()Ljava/lang/Class;" } : Jvm.MethodName)) ∈ ws0 := zz_m 1732 (by decide +kernel) (by decide +kernel)
