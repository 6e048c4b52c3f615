/-! references out of arrays -/
section HP
variable {p : Program} {l : Launch} {e₀ : Env} {R : Room} {s : State} {m : MethodId} {args : Array Value} {below : List Frame} {meth : Method} {c : Code} {H : Heap} {locs : List Loc} {cells slots : Nat} {Q : State → Prop}
variable {cc : ByteArray} {pc : Nat} {ls : Array Slot} {rest : List Value} {D : va_G} {cl : List vw_C} {A : Nat → Prop} {a : Nat} {tys : List (ClassId × FieldType)} {ws : va_W} {H0 : Heap}
theorem zz_v {x v : Value} (h : x = v) (k : W p l e₀ R s m args below meth c H locs cells slots Q (F0 m pc ls (v :: rest))) : W p l e₀ R s m args below meth c H locs cells slots Q (F0 m pc ls (x :: rest)) := by
  subst h; exact k
theorem z_aald (hexec : p.tables.exec = Jvm.exec) (hb : c.code = cc) (hK : va_K D cl tys s) (hP : va_P D cl ws H) (q0 t0 : Nat) {cA : ClassId} {C : String} {n : Nat} {f : Nat → Option Nat} (ha : ws[q0]? = some (a, .inl (cA, n, .inr (.inr (.inr (.inr f)))))) (ht : tys[t0]? = some (cA, .object C)) {i : Int32} {e : Nat} (hi : i = nI e) (hlt : e < n) (hn : n < 2147483648) {v : Value} (hv : va_rf (f e) = v) (hdg : decode cc pc = .ok (.aaload, 1))
    (k : W p l e₀ R s m args below meth c H locs cells slots Q (F0 m (pc + 1) ls (v :: rest))) : W p l e₀ R s m args below meth c H locs cells slots Q (F0 m pc ls (.int i :: .ref a :: rest)) := by
  subst hi hv
  refine va_aldq hexec hb hK hP q0 t0 ha ht (vp_in_nI hlt hn) hdg ?_
  rw [nI_clamp (by omega)]; exact k
theorem z_aast (hexec : p.tables.exec = Jvm.exec) (hb : c.code = cc) (hK : va_K D cl tys s) (hP : va_P D cl ws H) (hD : va_D A ws) (hS : va_S A H0 H locs) (q0 t0 qk ci : Nat) {cA : ClassId} {r : vw_C} {n v : Nat} {vs : List Value} {f : Nat → Option Nat} (ha : ws[q0]? = some (a, .inl (cA, n, .inr (.inr (.inr (.inr f)))))) (ht : tys[t0]? = some (cA, .object r.1)) (hv : ws[qk]? = some (v, .inr (ci, vs))) (hc : cl[ci]? = some r) {i : Int32} {e : Nat} (hi : i = nI e) (hlt : e < n) (hn : n < 2147483648) (hdg : decode cc pc = .ok (.aastore, 1))
    (kk : ∀ (H1 : Heap) (locs1 : List Loc), va_P D cl (ws.set q0 (a, .inl (cA, n, .inr (.inr (.inr (.inr (va_up f e (some v)))))))) H1 → va_D A (ws.set q0 (a, .inl (cA, n, .inr (.inr (.inr (.inr (va_up f e (some v)))))))) → va_S A H0 H1 locs1 → W p l e₀ R s m args below meth c H1 locs1 cells slots Q (F0 m (pc + 1) ls rest)) : W p l e₀ R s m args below meth c H locs cells slots Q (F0 m pc ls (.ref v :: .int i :: .ref a :: rest)) := by
  subst hi
  refine va_astq hexec hb hK hP hD hS q0 t0 qk ci ha ht hv hc (vp_in_nI hlt hn) hdg (fun H1 locs1 h1 h2 h3 => ?_)
  rw [nI_clamp (by omega)] at h1 h2; exact kk H1 locs1 h1 h2 h3
theorem z_acmpne (hexec : p.tables.exec = Jvm.exec) (hb : c.code = cc) {rx ry : Nat} {off : Int} {tgt : Nat} (hdg : decode cc pc = .ok (.if_acmp .ne off, 3)) (ht : (pc : Int) + off = (tgt : Int))
    (kt : ¬ rx = ry → W p l e₀ R s m args below meth c H locs cells slots Q (F0 m tgt ls rest)) (kf : rx = ry → W p l e₀ R s m args below meth c H locs cells slots Q (F0 m (pc + 3) ls rest)) : W p l e₀ R s m args below meth c H locs cells slots Q (F0 m pc ls (.ref ry :: .ref rx :: rest)) :=
  lv_acmp_ne (rx := some rx) (ry := some ry) hexec hb hdg ht (fun h => kt (fun g => h (by rw [g]))) (fun h => kf (Option.some.inj h))
theorem z_acmpeq (hexec : p.tables.exec = Jvm.exec) (hb : c.code = cc) {rx ry : Nat} {off : Int} {tgt : Nat} (hdg : decode cc pc = .ok (.if_acmp .eq off, 3)) (ht : (pc : Int) + off = (tgt : Int))
    (kt : rx = ry → W p l e₀ R s m args below meth c H locs cells slots Q (F0 m tgt ls rest)) (kf : ¬ rx = ry → W p l e₀ R s m args below meth c H locs cells slots Q (F0 m (pc + 3) ls rest)) : W p l e₀ R s m args below meth c H locs cells slots Q (F0 m pc ls (.ref ry :: .ref rx :: rest)) :=
  lv_acmp_eq (rx := some rx) (ry := some ry) hexec hb hdg ht (fun h => kt (Option.some.inj h)) (fun h => kf (fun g => h (by rw [g])))
end HP
