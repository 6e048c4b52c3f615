noncomputable def odr (l : List UInt8) : Nat → List UInt8 := List.rec (motive := fun _ => Nat → List UInt8) (fun _ => []) (fun a t ih p => Nat.rec (motive := fun _ => List UInt8) (a :: t) (fun q _ => ih q) p) l
theorem odr_eq : ∀ (l : List UInt8) (p : Nat), odr l p = l.drop p
  | [], p => (List.drop_nil).symm
  | _ :: _, 0 => rfl
  | _ :: t, q + 1 => (odr_eq t q).trans rfl
noncomputable def ob1 (l : List UInt8) (p o : Nat) : Bool := match odr l p with | u :: _ => Nat.beq u.toNat o | _ => false
noncomputable def ob2 (l : List UInt8) (p o i : Nat) : Bool := match odr l p with | u :: v :: _ => Nat.beq u.toNat o && Nat.beq v.toNat i | _ => false
noncomputable def ob2s (l : List UInt8) (p o : Nat) (z : Int) : Bool := match odr l p with | u :: v :: _ => Nat.beq u.toNat o && decide (Reader.signed 8 v.toNat = z) | _ => false
noncomputable def ob3 (l : List UInt8) (p o i : Nat) : Bool := match odr l p with | u :: v :: w :: _ => Nat.beq u.toNat o && Nat.beq (v.toNat * 256 + w.toNat) i | _ => false
noncomputable def ob3s (l : List UInt8) (p o : Nat) (z : Int) : Bool := match odr l p with | u :: v :: w :: _ => Nat.beq u.toNat o && decide (Reader.signed 16 (v.toNat * 256 + w.toNat) = z) | _ => false
noncomputable def obii (l : List UInt8) (p o i : Nat) (z : Int) : Bool := match odr l p with | u :: v :: w :: _ => Nat.beq u.toNat o && (Nat.beq v.toNat i && decide (Reader.signed 8 w.toNat = z)) | _ => false
theorem odu {c : ByteArray} {p : Nat} {b : UInt8} (h : c.data.toList[p]? = some b) : (Reader.u1 : Decoder Nat) c p = .ok (b.toNat, p + 1) := by
  obtain ⟨hl, he⟩ := List.getElem?_eq_some_iff.mp h
  have hs : p < c.size := hl
  have hb : c[p] = b := he
  show (if h : p < c.size then (do set (p + 1); pure c[p].toNat : Decoder Nat) else throw (HasTruncated.truncated p)) c p = _
  rw [dif_pos hs]
  show Except.ok (c[p].toNat, p + 1) = _
  rw [hb]
theorem odd {l : List UInt8} {p k : Nat} {t : List UInt8} {b : UInt8} (h : odr l p = t) (hb : t[k]? = some b) : l[p + k]? = some b := by
  rw [odr_eq] at h
  rw [← List.getElem?_drop, h]
  exact hb
theorem ou1 {c : ByteArray} {p o : Nat} (h : ob1 c.data.toList p o = true) : (Reader.u1 : Decoder Nat) c p = .ok (o, p + 1) := by
  unfold ob1 at h
  split at h
  · rename_i u t e
    have a0 := odu (odd (k := 0) e rfl)
    rw [Nat.eq_of_beq_eq_true h] at a0
    exact a0
  · cases h
theorem ou2 {c : ByteArray} {p o i : Nat} (h : ob2 c.data.toList p o i = true) : (Reader.u1 : Decoder Nat) c p = .ok (o, p + 1) ∧ (Reader.u1 : Decoder Nat) c (p + 1) = .ok (i, p + 1 + 1) := by
  unfold ob2 at h
  split at h
  · rename_i u v t e
    obtain ⟨h0, h1⟩ := Bool.and_eq_true_iff.mp h
    have a0 := odu (odd (k := 0) e rfl)
    have a1 := odu (odd (k := 1) e rfl)
    rw [Nat.eq_of_beq_eq_true h0] at a0
    rw [Nat.eq_of_beq_eq_true h1] at a1
    exact ⟨a0, a1⟩
  · cases h
theorem ou2s {c : ByteArray} {p o : Nat} {z : Int} (h : ob2s c.data.toList p o z = true) : ∃ x, (Reader.u1 : Decoder Nat) c p = .ok (o, p + 1) ∧ (Reader.u1 : Decoder Nat) c (p + 1) = .ok (x, p + 1 + 1) ∧ Reader.signed 8 x = z := by
  unfold ob2s at h
  split at h
  · rename_i u v t e
    obtain ⟨h0, h1⟩ := Bool.and_eq_true_iff.mp h
    have a0 := odu (odd (k := 0) e rfl)
    have a1 := odu (odd (k := 1) e rfl)
    rw [Nat.eq_of_beq_eq_true h0] at a0
    exact ⟨_, a0, a1, of_decide_eq_true h1⟩
  · cases h
theorem ou3 {c : ByteArray} {p o i : Nat} (h : ob3 c.data.toList p o i = true) : ∃ x y, (Reader.u1 : Decoder Nat) c p = .ok (o, p + 1) ∧ (Reader.u1 : Decoder Nat) c (p + 1) = .ok (x, p + 1 + 1) ∧ (Reader.u1 : Decoder Nat) c (p + 1 + 1) = .ok (y, p + 1 + 1 + 1) ∧ x * 256 + y = i := by
  unfold ob3 at h
  split at h
  · rename_i u v w t e
    obtain ⟨h0, h1⟩ := Bool.and_eq_true_iff.mp h
    have a0 := odu (odd (k := 0) e rfl)
    have a1 := odu (odd (k := 1) e rfl)
    have a2 := odu (odd (k := 2) e rfl)
    rw [Nat.eq_of_beq_eq_true h0] at a0
    exact ⟨_, _, a0, a1, a2, Nat.eq_of_beq_eq_true h1⟩
  · cases h
theorem ou3s {c : ByteArray} {p o : Nat} {z : Int} (h : ob3s c.data.toList p o z = true) : ∃ x y, (Reader.u1 : Decoder Nat) c p = .ok (o, p + 1) ∧ (Reader.u1 : Decoder Nat) c (p + 1) = .ok (x, p + 1 + 1) ∧ (Reader.u1 : Decoder Nat) c (p + 1 + 1) = .ok (y, p + 1 + 1 + 1) ∧ Reader.signed 16 (x * 256 + y) = z := by
  unfold ob3s at h
  split at h
  · rename_i u v w t e
    obtain ⟨h0, h1⟩ := Bool.and_eq_true_iff.mp h
    have a0 := odu (odd (k := 0) e rfl)
    have a1 := odu (odd (k := 1) e rfl)
    have a2 := odu (odd (k := 2) e rfl)
    rw [Nat.eq_of_beq_eq_true h0] at a0
    exact ⟨_, _, a0, a1, a2, of_decide_eq_true h1⟩
  · cases h
theorem ouii {c : ByteArray} {p o i : Nat} {z : Int} (h : obii c.data.toList p o i z = true) : ∃ y, (Reader.u1 : Decoder Nat) c p = .ok (o, p + 1) ∧ (Reader.u1 : Decoder Nat) c (p + 1) = .ok (i, p + 1 + 1) ∧ (Reader.u1 : Decoder Nat) c (p + 1 + 1) = .ok (y, p + 1 + 1 + 1) ∧ Reader.signed 8 y = z := by
  unfold obii at h
  split at h
  · rename_i u v w t e
    obtain ⟨h0, h1⟩ := Bool.and_eq_true_iff.mp h
    obtain ⟨h1, h2⟩ := Bool.and_eq_true_iff.mp h1
    have a0 := odu (odd (k := 0) e rfl)
    have a1 := odu (odd (k := 1) e rfl)
    have a2 := odu (odd (k := 2) e rfl)
    rw [Nat.eq_of_beq_eq_true h0] at a0
    rw [Nat.eq_of_beq_eq_true h1] at a1
    exact ⟨_, a0, a1, a2, of_decide_eq_true h2⟩
  · cases h
theorem odc {c : ByteArray} {pc n q r m : Nat} {i : Instr} (k : Nat → Decoder Instr) (hk : Decoder.instr pc = (Reader.u1 >>= k)) (h0 : (Reader.u1 : Decoder Nat) c pc = .ok (n, q)) (h1 : k n c q = .ok (i, r)) (hr : r - pc = m) : decode c pc = .ok (i, m) := by
  have e : Decoder.instr pc c pc = .ok (i, r) := by
    rw [hk]
    show Except.bind ((Reader.u1 : Decoder Nat) c pc) (fun x => k x.1 c x.2) = _
    rw [h0]
    exact h1
  show Except.bind (Decoder.instr pc c pc) (fun x => Except.ok (x.1, x.2 - pc)) = _
  rw [e, ← hr]
  rfl
theorem of1 {c : ByteArray} {p q x : Nat} {f : Nat → Instr} (h : (Reader.u1 : Decoder Nat) c p = .ok (x, q)) : (Reader.u1 >>= fun a => pure (f a) : Decoder Instr) c p = .ok (f x, q) := by
  show Except.bind ((Reader.u1 : Decoder Nat) c p) (fun x => Except.ok (f x.1, x.2)) = _
  rw [h]
  rfl
theorem os1 {c : ByteArray} {p q x : Nat} {f : Int → Instr} {z : Int} (h : (Reader.u1 : Decoder Nat) c p = .ok (x, q)) (hz : Reader.signed 8 x = z) : (Reader.s1 >>= fun a => pure (f a) : Decoder Instr) c p = .ok (f z, q) := by
  show Except.bind (Except.map (fun x => (Reader.signed 8 x.1, x.2)) ((Reader.u1 : Decoder Nat) c p)) (fun x => Except.ok (f x.1, x.2)) = _
  rw [h, ← hz]
  rfl
theorem ouu {c : ByteArray} {p q r x y i : Nat} (h : (Reader.u1 : Decoder Nat) c p = .ok (x, q)) (h2 : (Reader.u1 : Decoder Nat) c q = .ok (y, r)) (hi : x * 256 + y = i) : (Reader.u2 : Decoder Nat) c p = .ok (i, r) := by
  show Except.bind ((Reader.u1 : Decoder Nat) c p) (fun u => Except.bind ((Reader.u1 : Decoder Nat) c u.2) (fun v => Except.ok (u.1 * 256 + v.1, v.2))) = _
  rw [h]
  show Except.bind ((Reader.u1 : Decoder Nat) c q) (fun v => Except.ok (x * 256 + v.1, v.2)) = _
  rw [h2, ← hi]
  rfl
theorem of2 {c : ByteArray} {p q r x y i : Nat} {f : Nat → Instr} (h : (Reader.u1 : Decoder Nat) c p = .ok (x, q)) (h2 : (Reader.u1 : Decoder Nat) c q = .ok (y, r)) (hi : x * 256 + y = i) : (Reader.u2 >>= fun a => pure (f a) : Decoder Instr) c p = .ok (f i, r) := by
  show Except.bind ((Reader.u2 : Decoder Nat) c p) (fun x => Except.ok (f x.1, x.2)) = _
  rw [ouu h h2 hi]
  rfl
theorem os2 {c : ByteArray} {p q r x y : Nat} {f : Int → Instr} {z : Int} (h : (Reader.u1 : Decoder Nat) c p = .ok (x, q)) (h2 : (Reader.u1 : Decoder Nat) c q = .ok (y, r)) (hz : Reader.signed 16 (x * 256 + y) = z) : (Reader.s2 >>= fun a => pure (f a) : Decoder Instr) c p = .ok (f z, r) := by
  show Except.bind (Except.map (fun x => (Reader.signed 16 x.1, x.2)) ((Reader.u2 : Decoder Nat) c p)) (fun x => Except.ok (f x.1, x.2)) = _
  rw [ouu h h2 rfl, ← hz]
  rfl
theorem oii {c : ByteArray} {p q r i y : Nat} {z : Int} (h : (Reader.u1 : Decoder Nat) c p = .ok (i, q)) (h2 : (Reader.u1 : Decoder Nat) c q = .ok (y, r)) (hz : Reader.signed 8 y = z) : (Reader.u1 >>= fun a => Reader.s1 >>= fun b => pure (.iinc a b) : Decoder Instr) c p = .ok (.iinc i z, r) := by
  show Except.bind ((Reader.u1 : Decoder Nat) c p) (fun u => (Reader.s1 >>= fun b => pure (.iinc u.1 b) : Decoder Instr) c u.2) = _
  rw [h]
  exact os1 (f := fun b => .iinc i b) h2 hz
theorem om1 {p : Nat} : p + 1 - p = 1 := by omega
theorem om2 {p : Nat} : p + 1 + 1 - p = 2 := by omega
theorem om3 {p : Nat} : p + 1 + 1 + 1 - p = 3 := by omega
theorem oin {c : ByteArray} {p q x : Nat} {k : Nat → Decoder Instr} {i : Instr} (h : (Reader.u1 : Decoder Nat) c p = .ok (x, q)) (hk : k x c q = .ok (i, q)) : (Reader.u1 >>= k : Decoder Instr) c p = .ok (i, q) := by
  show Except.bind ((Reader.u1 : Decoder Nat) c p) (fun x => k x.1 c x.2) = _
  rw [h]
  exact hk
theorem op_1 {c : ByteArray} {pc : Nat} (h : ob1 c.data.toList pc 1 = true) : decode c pc = .ok (.aconst_null, 1) := odc _ rfl (ou1 h) rfl om1
theorem op_2 {c : ByteArray} {pc : Nat} (h : ob1 c.data.toList pc 2 = true) : decode c pc = .ok (.iconst (-1), 1) := odc _ rfl (ou1 h) rfl om1
theorem op_3 {c : ByteArray} {pc : Nat} (h : ob1 c.data.toList pc 3 = true) : decode c pc = .ok (.iconst 0, 1) := odc _ rfl (ou1 h) rfl om1
theorem op_4 {c : ByteArray} {pc : Nat} (h : ob1 c.data.toList pc 4 = true) : decode c pc = .ok (.iconst 1, 1) := odc _ rfl (ou1 h) rfl om1
theorem op_5 {c : ByteArray} {pc : Nat} (h : ob1 c.data.toList pc 5 = true) : decode c pc = .ok (.iconst 2, 1) := odc _ rfl (ou1 h) rfl om1
theorem op_6 {c : ByteArray} {pc : Nat} (h : ob1 c.data.toList pc 6 = true) : decode c pc = .ok (.iconst 3, 1) := odc _ rfl (ou1 h) rfl om1
theorem op_7 {c : ByteArray} {pc : Nat} (h : ob1 c.data.toList pc 7 = true) : decode c pc = .ok (.iconst 4, 1) := odc _ rfl (ou1 h) rfl om1
theorem op_8 {c : ByteArray} {pc : Nat} (h : ob1 c.data.toList pc 8 = true) : decode c pc = .ok (.iconst 5, 1) := odc _ rfl (ou1 h) rfl om1
theorem op_9 {c : ByteArray} {pc : Nat} (h : ob1 c.data.toList pc 9 = true) : decode c pc = .ok (.lconst 0, 1) := odc _ rfl (ou1 h) rfl om1
theorem op_10 {c : ByteArray} {pc : Nat} (h : ob1 c.data.toList pc 10 = true) : decode c pc = .ok (.lconst 1, 1) := odc _ rfl (ou1 h) rfl om1
theorem op_16 {c : ByteArray} {pc : Nat} {z : Int} (h : ob2s c.data.toList pc 16 z = true) : decode c pc = .ok (.bipush z, 2) := (ou2s h).elim fun _ a => odc _ rfl a.1 (os1 (f := fun z => .bipush z) a.2.1 a.2.2) om2
theorem op_17 {c : ByteArray} {pc : Nat} {z : Int} (h : ob3s c.data.toList pc 17 z = true) : decode c pc = .ok (.sipush z, 3) := (ou3s h).elim fun _ a => a.elim fun _ a => odc _ rfl a.1 (os2 (f := fun z => .sipush z) a.2.1 a.2.2.1 a.2.2.2) om3
theorem op_18 {c : ByteArray} {pc : Nat} {i : Nat} (h : ob2 c.data.toList pc 18 i = true) : decode c pc = .ok (.ldc i, 2) := odc _ rfl (ou2 h).1 (of1 (f := fun i => .ldc i) (ou2 h).2) om2
theorem op_19 {c : ByteArray} {pc : Nat} {i : Nat} (h : ob3 c.data.toList pc 19 i = true) : decode c pc = .ok (.ldc_w i, 3) := (ou3 h).elim fun _ a => a.elim fun _ a => odc _ rfl a.1 (of2 (f := fun i => .ldc_w i) a.2.1 a.2.2.1 a.2.2.2) om3
theorem op_20 {c : ByteArray} {pc : Nat} {i : Nat} (h : ob3 c.data.toList pc 20 i = true) : decode c pc = .ok (.ldc2_w i, 3) := (ou3 h).elim fun _ a => a.elim fun _ a => odc _ rfl a.1 (of2 (f := fun i => .ldc2_w i) a.2.1 a.2.2.1 a.2.2.2) om3
theorem op_21 {c : ByteArray} {pc : Nat} {i : Nat} (h : ob2 c.data.toList pc 21 i = true) : decode c pc = .ok (.iload i, 2) := odc _ rfl (ou2 h).1 (of1 (f := fun i => .iload i) (ou2 h).2) om2
theorem op_22 {c : ByteArray} {pc : Nat} {i : Nat} (h : ob2 c.data.toList pc 22 i = true) : decode c pc = .ok (.lload i, 2) := odc _ rfl (ou2 h).1 (of1 (f := fun i => .lload i) (ou2 h).2) om2
theorem op_25 {c : ByteArray} {pc : Nat} {i : Nat} (h : ob2 c.data.toList pc 25 i = true) : decode c pc = .ok (.aload i, 2) := odc _ rfl (ou2 h).1 (of1 (f := fun i => .aload i) (ou2 h).2) om2
theorem op_26 {c : ByteArray} {pc : Nat} (h : ob1 c.data.toList pc 26 = true) : decode c pc = .ok (.iload_n 0, 1) := odc _ rfl (ou1 h) rfl om1
theorem op_27 {c : ByteArray} {pc : Nat} (h : ob1 c.data.toList pc 27 = true) : decode c pc = .ok (.iload_n 1, 1) := odc _ rfl (ou1 h) rfl om1
theorem op_28 {c : ByteArray} {pc : Nat} (h : ob1 c.data.toList pc 28 = true) : decode c pc = .ok (.iload_n 2, 1) := odc _ rfl (ou1 h) rfl om1
theorem op_29 {c : ByteArray} {pc : Nat} (h : ob1 c.data.toList pc 29 = true) : decode c pc = .ok (.iload_n 3, 1) := odc _ rfl (ou1 h) rfl om1
theorem op_30 {c : ByteArray} {pc : Nat} (h : ob1 c.data.toList pc 30 = true) : decode c pc = .ok (.lload_n 0, 1) := odc _ rfl (ou1 h) rfl om1
theorem op_31 {c : ByteArray} {pc : Nat} (h : ob1 c.data.toList pc 31 = true) : decode c pc = .ok (.lload_n 1, 1) := odc _ rfl (ou1 h) rfl om1
theorem op_32 {c : ByteArray} {pc : Nat} (h : ob1 c.data.toList pc 32 = true) : decode c pc = .ok (.lload_n 2, 1) := odc _ rfl (ou1 h) rfl om1
theorem op_33 {c : ByteArray} {pc : Nat} (h : ob1 c.data.toList pc 33 = true) : decode c pc = .ok (.lload_n 3, 1) := odc _ rfl (ou1 h) rfl om1
theorem op_42 {c : ByteArray} {pc : Nat} (h : ob1 c.data.toList pc 42 = true) : decode c pc = .ok (.aload_n 0, 1) := odc _ rfl (ou1 h) rfl om1
theorem op_43 {c : ByteArray} {pc : Nat} (h : ob1 c.data.toList pc 43 = true) : decode c pc = .ok (.aload_n 1, 1) := odc _ rfl (ou1 h) rfl om1
theorem op_44 {c : ByteArray} {pc : Nat} (h : ob1 c.data.toList pc 44 = true) : decode c pc = .ok (.aload_n 2, 1) := odc _ rfl (ou1 h) rfl om1
theorem op_45 {c : ByteArray} {pc : Nat} (h : ob1 c.data.toList pc 45 = true) : decode c pc = .ok (.aload_n 3, 1) := odc _ rfl (ou1 h) rfl om1
theorem op_46 {c : ByteArray} {pc : Nat} (h : ob1 c.data.toList pc 46 = true) : decode c pc = .ok (.iaload, 1) := odc _ rfl (ou1 h) rfl om1
theorem op_50 {c : ByteArray} {pc : Nat} (h : ob1 c.data.toList pc 50 = true) : decode c pc = .ok (.aaload, 1) := odc _ rfl (ou1 h) rfl om1
theorem op_51 {c : ByteArray} {pc : Nat} (h : ob1 c.data.toList pc 51 = true) : decode c pc = .ok (.baload, 1) := odc _ rfl (ou1 h) rfl om1
theorem op_54 {c : ByteArray} {pc : Nat} {i : Nat} (h : ob2 c.data.toList pc 54 i = true) : decode c pc = .ok (.istore i, 2) := odc _ rfl (ou2 h).1 (of1 (f := fun i => .istore i) (ou2 h).2) om2
theorem op_55 {c : ByteArray} {pc : Nat} {i : Nat} (h : ob2 c.data.toList pc 55 i = true) : decode c pc = .ok (.lstore i, 2) := odc _ rfl (ou2 h).1 (of1 (f := fun i => .lstore i) (ou2 h).2) om2
theorem op_58 {c : ByteArray} {pc : Nat} {i : Nat} (h : ob2 c.data.toList pc 58 i = true) : decode c pc = .ok (.astore i, 2) := odc _ rfl (ou2 h).1 (of1 (f := fun i => .astore i) (ou2 h).2) om2
theorem op_60 {c : ByteArray} {pc : Nat} (h : ob1 c.data.toList pc 60 = true) : decode c pc = .ok (.istore_n 1, 1) := odc _ rfl (ou1 h) rfl om1
theorem op_61 {c : ByteArray} {pc : Nat} (h : ob1 c.data.toList pc 61 = true) : decode c pc = .ok (.istore_n 2, 1) := odc _ rfl (ou1 h) rfl om1
theorem op_62 {c : ByteArray} {pc : Nat} (h : ob1 c.data.toList pc 62 = true) : decode c pc = .ok (.istore_n 3, 1) := odc _ rfl (ou1 h) rfl om1
theorem op_64 {c : ByteArray} {pc : Nat} (h : ob1 c.data.toList pc 64 = true) : decode c pc = .ok (.lstore_n 1, 1) := odc _ rfl (ou1 h) rfl om1
theorem op_65 {c : ByteArray} {pc : Nat} (h : ob1 c.data.toList pc 65 = true) : decode c pc = .ok (.lstore_n 2, 1) := odc _ rfl (ou1 h) rfl om1
theorem op_66 {c : ByteArray} {pc : Nat} (h : ob1 c.data.toList pc 66 = true) : decode c pc = .ok (.lstore_n 3, 1) := odc _ rfl (ou1 h) rfl om1
theorem op_76 {c : ByteArray} {pc : Nat} (h : ob1 c.data.toList pc 76 = true) : decode c pc = .ok (.astore_n 1, 1) := odc _ rfl (ou1 h) rfl om1
theorem op_77 {c : ByteArray} {pc : Nat} (h : ob1 c.data.toList pc 77 = true) : decode c pc = .ok (.astore_n 2, 1) := odc _ rfl (ou1 h) rfl om1
theorem op_78 {c : ByteArray} {pc : Nat} (h : ob1 c.data.toList pc 78 = true) : decode c pc = .ok (.astore_n 3, 1) := odc _ rfl (ou1 h) rfl om1
theorem op_79 {c : ByteArray} {pc : Nat} (h : ob1 c.data.toList pc 79 = true) : decode c pc = .ok (.iastore, 1) := odc _ rfl (ou1 h) rfl om1
theorem op_83 {c : ByteArray} {pc : Nat} (h : ob1 c.data.toList pc 83 = true) : decode c pc = .ok (.aastore, 1) := odc _ rfl (ou1 h) rfl om1
theorem op_84 {c : ByteArray} {pc : Nat} (h : ob1 c.data.toList pc 84 = true) : decode c pc = .ok (.bastore, 1) := odc _ rfl (ou1 h) rfl om1
theorem op_87 {c : ByteArray} {pc : Nat} (h : ob1 c.data.toList pc 87 = true) : decode c pc = .ok (.pop, 1) := odc _ rfl (ou1 h) rfl om1
theorem op_88 {c : ByteArray} {pc : Nat} (h : ob1 c.data.toList pc 88 = true) : decode c pc = .ok (.pop2, 1) := odc _ rfl (ou1 h) rfl om1
theorem op_89 {c : ByteArray} {pc : Nat} (h : ob1 c.data.toList pc 89 = true) : decode c pc = .ok (.dup, 1) := odc _ rfl (ou1 h) rfl om1
theorem op_90 {c : ByteArray} {pc : Nat} (h : ob1 c.data.toList pc 90 = true) : decode c pc = .ok (.dup_x1, 1) := odc _ rfl (ou1 h) rfl om1
theorem op_92 {c : ByteArray} {pc : Nat} (h : ob1 c.data.toList pc 92 = true) : decode c pc = .ok (.dup2, 1) := odc _ rfl (ou1 h) rfl om1
theorem op_96 {c : ByteArray} {pc : Nat} (h : ob1 c.data.toList pc 96 = true) : decode c pc = .ok (.iadd, 1) := odc _ rfl (ou1 h) rfl om1
theorem op_97 {c : ByteArray} {pc : Nat} (h : ob1 c.data.toList pc 97 = true) : decode c pc = .ok (.ladd, 1) := odc _ rfl (ou1 h) rfl om1
theorem op_100 {c : ByteArray} {pc : Nat} (h : ob1 c.data.toList pc 100 = true) : decode c pc = .ok (.isub, 1) := odc _ rfl (ou1 h) rfl om1
theorem op_101 {c : ByteArray} {pc : Nat} (h : ob1 c.data.toList pc 101 = true) : decode c pc = .ok (.lsub, 1) := odc _ rfl (ou1 h) rfl om1
theorem op_104 {c : ByteArray} {pc : Nat} (h : ob1 c.data.toList pc 104 = true) : decode c pc = .ok (.imul, 1) := odc _ rfl (ou1 h) rfl om1
theorem op_105 {c : ByteArray} {pc : Nat} (h : ob1 c.data.toList pc 105 = true) : decode c pc = .ok (.lmul, 1) := odc _ rfl (ou1 h) rfl om1
theorem op_108 {c : ByteArray} {pc : Nat} (h : ob1 c.data.toList pc 108 = true) : decode c pc = .ok (.idiv, 1) := odc _ rfl (ou1 h) rfl om1
theorem op_109 {c : ByteArray} {pc : Nat} (h : ob1 c.data.toList pc 109 = true) : decode c pc = .ok (.ldiv, 1) := odc _ rfl (ou1 h) rfl om1
theorem op_112 {c : ByteArray} {pc : Nat} (h : ob1 c.data.toList pc 112 = true) : decode c pc = .ok (.irem, 1) := odc _ rfl (ou1 h) rfl om1
theorem op_113 {c : ByteArray} {pc : Nat} (h : ob1 c.data.toList pc 113 = true) : decode c pc = .ok (.lrem, 1) := odc _ rfl (ou1 h) rfl om1
theorem op_117 {c : ByteArray} {pc : Nat} (h : ob1 c.data.toList pc 117 = true) : decode c pc = .ok (.lneg, 1) := odc _ rfl (ou1 h) rfl om1
theorem op_122 {c : ByteArray} {pc : Nat} (h : ob1 c.data.toList pc 122 = true) : decode c pc = .ok (.ishr, 1) := odc _ rfl (ou1 h) rfl om1
theorem op_126 {c : ByteArray} {pc : Nat} (h : ob1 c.data.toList pc 126 = true) : decode c pc = .ok (.iand, 1) := odc _ rfl (ou1 h) rfl om1
theorem op_132 {c : ByteArray} {pc : Nat} {i : Nat} {z : Int} (h : obii c.data.toList pc 132 i z = true) : decode c pc = .ok (.iinc i z, 3) := (ouii h).elim fun _ a => odc _ rfl a.1 (oii a.2.1 a.2.2.1 a.2.2.2) om3
theorem op_133 {c : ByteArray} {pc : Nat} (h : ob1 c.data.toList pc 133 = true) : decode c pc = .ok (.i2l, 1) := odc _ rfl (ou1 h) rfl om1
theorem op_148 {c : ByteArray} {pc : Nat} (h : ob1 c.data.toList pc 148 = true) : decode c pc = .ok (.lcmp, 1) := odc _ rfl (ou1 h) rfl om1
theorem op_153 {c : ByteArray} {pc : Nat} {z : Int} (h : ob3s c.data.toList pc 153 z = true) : decode c pc = .ok (.ifCond .eq z, 3) := (ou3s h).elim fun _ a => a.elim fun _ a => odc _ rfl a.1 (os2 (f := fun z => .ifCond .eq z) a.2.1 a.2.2.1 a.2.2.2) om3
theorem op_154 {c : ByteArray} {pc : Nat} {z : Int} (h : ob3s c.data.toList pc 154 z = true) : decode c pc = .ok (.ifCond .ne z, 3) := (ou3s h).elim fun _ a => a.elim fun _ a => odc _ rfl a.1 (os2 (f := fun z => .ifCond .ne z) a.2.1 a.2.2.1 a.2.2.2) om3
theorem op_155 {c : ByteArray} {pc : Nat} {z : Int} (h : ob3s c.data.toList pc 155 z = true) : decode c pc = .ok (.ifCond .lt z, 3) := (ou3s h).elim fun _ a => a.elim fun _ a => odc _ rfl a.1 (os2 (f := fun z => .ifCond .lt z) a.2.1 a.2.2.1 a.2.2.2) om3
theorem op_156 {c : ByteArray} {pc : Nat} {z : Int} (h : ob3s c.data.toList pc 156 z = true) : decode c pc = .ok (.ifCond .ge z, 3) := (ou3s h).elim fun _ a => a.elim fun _ a => odc _ rfl a.1 (os2 (f := fun z => .ifCond .ge z) a.2.1 a.2.2.1 a.2.2.2) om3
theorem op_157 {c : ByteArray} {pc : Nat} {z : Int} (h : ob3s c.data.toList pc 157 z = true) : decode c pc = .ok (.ifCond .gt z, 3) := (ou3s h).elim fun _ a => a.elim fun _ a => odc _ rfl a.1 (os2 (f := fun z => .ifCond .gt z) a.2.1 a.2.2.1 a.2.2.2) om3
theorem op_158 {c : ByteArray} {pc : Nat} {z : Int} (h : ob3s c.data.toList pc 158 z = true) : decode c pc = .ok (.ifCond .le z, 3) := (ou3s h).elim fun _ a => a.elim fun _ a => odc _ rfl a.1 (os2 (f := fun z => .ifCond .le z) a.2.1 a.2.2.1 a.2.2.2) om3
theorem op_159 {c : ByteArray} {pc : Nat} {z : Int} (h : ob3s c.data.toList pc 159 z = true) : decode c pc = .ok (.if_icmp .eq z, 3) := (ou3s h).elim fun _ a => a.elim fun _ a => odc _ rfl a.1 (os2 (f := fun z => .if_icmp .eq z) a.2.1 a.2.2.1 a.2.2.2) om3
theorem op_160 {c : ByteArray} {pc : Nat} {z : Int} (h : ob3s c.data.toList pc 160 z = true) : decode c pc = .ok (.if_icmp .ne z, 3) := (ou3s h).elim fun _ a => a.elim fun _ a => odc _ rfl a.1 (os2 (f := fun z => .if_icmp .ne z) a.2.1 a.2.2.1 a.2.2.2) om3
theorem op_161 {c : ByteArray} {pc : Nat} {z : Int} (h : ob3s c.data.toList pc 161 z = true) : decode c pc = .ok (.if_icmp .lt z, 3) := (ou3s h).elim fun _ a => a.elim fun _ a => odc _ rfl a.1 (os2 (f := fun z => .if_icmp .lt z) a.2.1 a.2.2.1 a.2.2.2) om3
theorem op_162 {c : ByteArray} {pc : Nat} {z : Int} (h : ob3s c.data.toList pc 162 z = true) : decode c pc = .ok (.if_icmp .ge z, 3) := (ou3s h).elim fun _ a => a.elim fun _ a => odc _ rfl a.1 (os2 (f := fun z => .if_icmp .ge z) a.2.1 a.2.2.1 a.2.2.2) om3
theorem op_163 {c : ByteArray} {pc : Nat} {z : Int} (h : ob3s c.data.toList pc 163 z = true) : decode c pc = .ok (.if_icmp .gt z, 3) := (ou3s h).elim fun _ a => a.elim fun _ a => odc _ rfl a.1 (os2 (f := fun z => .if_icmp .gt z) a.2.1 a.2.2.1 a.2.2.2) om3
theorem op_164 {c : ByteArray} {pc : Nat} {z : Int} (h : ob3s c.data.toList pc 164 z = true) : decode c pc = .ok (.if_icmp .le z, 3) := (ou3s h).elim fun _ a => a.elim fun _ a => odc _ rfl a.1 (os2 (f := fun z => .if_icmp .le z) a.2.1 a.2.2.1 a.2.2.2) om3
theorem op_165 {c : ByteArray} {pc : Nat} {z : Int} (h : ob3s c.data.toList pc 165 z = true) : decode c pc = .ok (.if_acmp .eq z, 3) := (ou3s h).elim fun _ a => a.elim fun _ a => odc _ rfl a.1 (os2 (f := fun z => .if_acmp .eq z) a.2.1 a.2.2.1 a.2.2.2) om3
theorem op_166 {c : ByteArray} {pc : Nat} {z : Int} (h : ob3s c.data.toList pc 166 z = true) : decode c pc = .ok (.if_acmp .ne z, 3) := (ou3s h).elim fun _ a => a.elim fun _ a => odc _ rfl a.1 (os2 (f := fun z => .if_acmp .ne z) a.2.1 a.2.2.1 a.2.2.2) om3
theorem op_167 {c : ByteArray} {pc : Nat} {z : Int} (h : ob3s c.data.toList pc 167 z = true) : decode c pc = .ok (.goto z, 3) := (ou3s h).elim fun _ a => a.elim fun _ a => odc _ rfl a.1 (os2 (f := fun z => .goto z) a.2.1 a.2.2.1 a.2.2.2) om3
theorem op_172 {c : ByteArray} {pc : Nat} (h : ob1 c.data.toList pc 172 = true) : decode c pc = .ok (.ireturn, 1) := odc _ rfl (ou1 h) rfl om1
theorem op_173 {c : ByteArray} {pc : Nat} (h : ob1 c.data.toList pc 173 = true) : decode c pc = .ok (.lreturn, 1) := odc _ rfl (ou1 h) rfl om1
theorem op_176 {c : ByteArray} {pc : Nat} (h : ob1 c.data.toList pc 176 = true) : decode c pc = .ok (.areturn, 1) := odc _ rfl (ou1 h) rfl om1
theorem op_177 {c : ByteArray} {pc : Nat} (h : ob1 c.data.toList pc 177 = true) : decode c pc = .ok (.return_, 1) := odc _ rfl (ou1 h) rfl om1
theorem op_178 {c : ByteArray} {pc : Nat} {i : Nat} (h : ob3 c.data.toList pc 178 i = true) : decode c pc = .ok (.getstatic i, 3) := (ou3 h).elim fun _ a => a.elim fun _ a => odc _ rfl a.1 (of2 (f := fun i => .getstatic i) a.2.1 a.2.2.1 a.2.2.2) om3
theorem op_180 {c : ByteArray} {pc : Nat} {i : Nat} (h : ob3 c.data.toList pc 180 i = true) : decode c pc = .ok (.getfield i, 3) := (ou3 h).elim fun _ a => a.elim fun _ a => odc _ rfl a.1 (of2 (f := fun i => .getfield i) a.2.1 a.2.2.1 a.2.2.2) om3
theorem op_181 {c : ByteArray} {pc : Nat} {i : Nat} (h : ob3 c.data.toList pc 181 i = true) : decode c pc = .ok (.putfield i, 3) := (ou3 h).elim fun _ a => a.elim fun _ a => odc _ rfl a.1 (of2 (f := fun i => .putfield i) a.2.1 a.2.2.1 a.2.2.2) om3
theorem op_182 {c : ByteArray} {pc : Nat} {i : Nat} (h : ob3 c.data.toList pc 182 i = true) : decode c pc = .ok (.invokevirtual i, 3) := (ou3 h).elim fun _ a => a.elim fun _ a => odc _ rfl a.1 (of2 (f := fun i => .invokevirtual i) a.2.1 a.2.2.1 a.2.2.2) om3
theorem op_183 {c : ByteArray} {pc : Nat} {i : Nat} (h : ob3 c.data.toList pc 183 i = true) : decode c pc = .ok (.invokespecial i, 3) := (ou3 h).elim fun _ a => a.elim fun _ a => odc _ rfl a.1 (of2 (f := fun i => .invokespecial i) a.2.1 a.2.2.1 a.2.2.2) om3
theorem op_184 {c : ByteArray} {pc : Nat} {i : Nat} (h : ob3 c.data.toList pc 184 i = true) : decode c pc = .ok (.invokestatic i, 3) := (ou3 h).elim fun _ a => a.elim fun _ a => odc _ rfl a.1 (of2 (f := fun i => .invokestatic i) a.2.1 a.2.2.1 a.2.2.2) om3
theorem op_187 {c : ByteArray} {pc : Nat} {i : Nat} (h : ob3 c.data.toList pc 187 i = true) : decode c pc = .ok (.new i, 3) := (ou3 h).elim fun _ a => a.elim fun _ a => odc _ rfl a.1 (of2 (f := fun i => .new i) a.2.1 a.2.2.1 a.2.2.2) om3
theorem op_189 {c : ByteArray} {pc : Nat} {i : Nat} (h : ob3 c.data.toList pc 189 i = true) : decode c pc = .ok (.anewarray i, 3) := (ou3 h).elim fun _ a => a.elim fun _ a => odc _ rfl a.1 (of2 (f := fun i => .anewarray i) a.2.1 a.2.2.1 a.2.2.2) om3
theorem op_190 {c : ByteArray} {pc : Nat} (h : ob1 c.data.toList pc 190 = true) : decode c pc = .ok (.arraylength, 1) := odc _ rfl (ou1 h) rfl om1
theorem op_192 {c : ByteArray} {pc : Nat} {i : Nat} (h : ob3 c.data.toList pc 192 i = true) : decode c pc = .ok (.checkcast i, 3) := (ou3 h).elim fun _ a => a.elim fun _ a => odc _ rfl a.1 (of2 (f := fun i => .checkcast i) a.2.1 a.2.2.1 a.2.2.2) om3
theorem op_198 {c : ByteArray} {pc : Nat} {z : Int} (h : ob3s c.data.toList pc 198 z = true) : decode c pc = .ok (.ifnull z, 3) := (ou3s h).elim fun _ a => a.elim fun _ a => odc _ rfl a.1 (os2 (f := fun z => .ifnull z) a.2.1 a.2.2.1 a.2.2.2) om3
theorem op_199 {c : ByteArray} {pc : Nat} {z : Int} (h : ob3s c.data.toList pc 199 z = true) : decode c pc = .ok (.ifnonnull z, 3) := (ou3s h).elim fun _ a => a.elim fun _ a => odc _ rfl a.1 (os2 (f := fun z => .ifnonnull z) a.2.1 a.2.2.1 a.2.2.2) om3
theorem op_1004 {c : ByteArray} {pc : Nat} (h : ob2 c.data.toList pc 188 4 = true) : decode c pc = .ok (.newarray .boolean, 2) := odc _ rfl (ou2 h).1 (oin (ou2 h).2 rfl) om2
theorem op_1010 {c : ByteArray} {pc : Nat} (h : ob2 c.data.toList pc 188 10 = true) : decode c pc = .ok (.newarray .int, 2) := odc _ rfl (ou2 h).1 (oin (ou2 h).2 rfl) om2
