section
/-! a method's contract, its world told once; and its entry in one row -/
abbrev zM (l : Launch) (y : MethodName) (cc : ByteArray) (maxL : Nat) (ret : Option FieldType) (R : Room) (av : List Value) (D : va_G) (tys : List (ClassId × FieldType)) (w : va_W) (sz : Nat) (v : Option Value) (B : (Nat → Prop) → State → Prop) (mc ms : Nat) : Prop := Met l y (.code y cc maxL ret :: ws0) R (va_Pc av (zPre D classes tys w sz zXN)) (zQ v (B (va_A w sz)) (va_A w sz)) mc ms (va_A w sz)
theorem zIn {l : Launch} {y : MethodName} {cc : ByteArray} {maxL : Nat} {ret : Option FieldType} {R : Room} {av : List Value} {D : va_G} {tys : List (ClassId × FieldType)} {w : va_W} {sz : Nat} {v : Option Value} {B : (Nat → Prop) → State → Prop} {mc ms : Nat} {own : String} {loc : List (Nat × Value)} (hy : plainName y.cls = true) (ho : y.cls = own) (hlen : Nat.ble (lg_sl av).length maxL = true) (hloc : lv_args 0 av = loc)
    (k : ∀ (p : Program) (e : Env) (s : State) (m : MethodId) (below : List Frame) (meth : Method) (c : Code), p.tables.exec = Jvm.exec → c.code = cc → meth.sig.returnType = ret → (∀ w9 ∈ ws0, w9.before av.toArray s = true) → s.vm.findClass own = some m.cls → meth.locks = false → c.maxLocals = maxL → meth.name = y.name → ∀ (A : Nat → Prop), (∀ q : Nat, s.heap.size ≤ q → A q) → va_S A s.heap s.heap [] → va_P D classes w s.heap → va_D A w → va_K D classes tys s → zXN s → ∀ (Q9 : State → Prop), Q9 = MQ below (zQ v (B A) A) av.toArray s mc ms A → ∀ (ls : Array Slot), lv_has ls maxL loc → W p l e R s m av.toArray below meth c s.heap [] 0 0 Q9 (F0 m 0 ls [])) : zM l y cc maxL ret R av D tys w sz v B mc ms := by
  refine Met.ofW (cc := cc) (maxL := maxL) (ret := ret) hy rfl ?_
  intro p e s m args below meth c s₁ Bd hml hv
  obtain ⟨rfl, hsz, hP, hK, hD0, hXN⟩ := hv
  have hts0 := atoms_spec (ws := .code y cc maxL ret :: ws0) Bd.pre
  subst hsz
  have hl := lv_entry av (n := maxL) (Nat.le_of_ble_eq_true hlen)
  rw [hloc] at hl
  rw [lg_entry_eq]
  exact k p e s m below meth c Bd.exec Bd.bytes Bd.returns (fun w9 h => hts0 w9 (List.mem_cons_of_mem _ h)) (by rw [← ho]; exact findClass_of_methodNamed Bd.named) Bd.notSynchronized hml (name_of_methodNamed Bd.named Bd.method).1 (va_A w s.heap.size) (fun q h => Or.inr h) va_S.rf hP hD0.self hK hXN _ rfl _ hl
theorem zre {D : va_G} {cl : List vw_C} {A : Nat → Prop} {W1 W2 : va_W} {H : Heap} (hP : va_P D cl W1 H) (hD : va_D A W1) (h : W1 = W2) : va_P D cl W2 H ∧ va_D A W2 := by
  subst h
  exact ⟨hP, hD⟩
end
