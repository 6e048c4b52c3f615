section
/-! worlds told once, by masks: every look goes once through a world, and what is only of numbers is left to the kernel -/
def zix : Nat → List Bool → List Nat
  | _, [] => []
  | k, true :: m => k :: zix (k + 1) m
  | k, false :: m => zix (k + 1) m
noncomputable def zm1 (X : va_W) (m : List Bool) : va_W := List.rec (motive := fun _ => va_W → va_W) (fun _ => []) (fun b _ ih X => List.rec (motive := fun _ => va_W) [] (fun a l _ => Bool.rec (motive := fun _ => va_W) (ih l) (a :: ih l) b) X) m X
noncomputable def zm2 (X : va_W) (m : List Bool) : va_W := List.rec (motive := fun _ => va_W → va_W) (fun _ => []) (fun b _ ih X => List.rec (motive := fun _ => va_W) [] (fun a l _ => Bool.rec (motive := fun _ => va_W) (ih l) (a :: ih l) b) X) m X
/-- the mask is no longer than the world -/
noncomputable def zok (X : va_W) (m : List Bool) : Bool := List.rec (motive := fun _ => va_W → Bool) (fun _ => true) (fun _ _ ih X => List.rec (motive := fun _ => Bool) false (fun _ l _ => ih l) X) m X
/-- the mask is just as long as the world -/
noncomputable def zoe (X : va_W) (m : List Bool) : Bool := List.rec (motive := fun _ => va_W → Bool) (fun X => List.rec (motive := fun _ => Bool) true (fun _ _ _ => false) X) (fun _ _ ih X => List.rec (motive := fun _ => Bool) false (fun _ l _ => ih l) X) m X
noncomputable def zS (X : va_W) : List (Option (Nat × va_E)) := List.rec (motive := fun _ => List (Option (Nat × va_E))) [] (fun a _ ih => some a :: ih) X
noncomputable def zg3 (X : va_W) (i : Nat) : Option (Nat × va_E) := Nat.rec (motive := fun _ => va_W → Option (Nat × va_E)) (fun X => List.rec (motive := fun _ => Option (Nat × va_E)) none (fun a _ _ => some a) X) (fun _ ih X => List.rec (motive := fun _ => Option (Nat × va_E)) none (fun _ l _ => ih l) X) i X
noncomputable def zp3 (X : va_W) (is : List Nat) : List (Option (Nat × va_E)) := List.rec (motive := fun _ => List (Option (Nat × va_E))) [] (fun i _ ih => zg3 X i :: ih) is
noncomputable def zp4 (X : va_W) (is : List Nat) : List (Option (Nat × va_E)) := List.rec (motive := fun _ => List (Option (Nat × va_E))) [] (fun i _ ih => zg3 X i :: ih) is
theorem zg3_e : ∀ (l : va_W) (n : Nat), zg3 l n = l[n]?
  | [], 0 => rfl
  | [], _ + 1 => rfl
  | _ :: _, 0 => rfl
  | _ :: l, n + 1 => zg3_e l n
theorem zp3_e (X : va_W) : ∀ is : List Nat, zp3 X is = is.map (fun i => X[i]?)
  | [] => rfl
  | i :: is => by
    show zg3 X i :: zp3 X is = X[i]? :: is.map (fun i => X[i]?)
    rw [zg3_e, zp3_e X is]
theorem zp4_e (X : va_W) : ∀ is : List Nat, zp4 X is = is.map (fun i => X[i]?)
  | [] => rfl
  | i :: is => by
    show zg3 X i :: zp4 X is = X[i]? :: is.map (fun i => X[i]?)
    rw [zg3_e, zp4_e X is]
theorem zS_e : ∀ l : va_W, zS l = l.map some
  | [] => rfl
  | a :: l => by
    show some a :: zS l = some a :: l.map some
    rw [zS_e l]
theorem zm12 : ∀ (l : va_W) (m : List Bool), zm1 l m = zm2 l m
  | [], [] => rfl
  | [], _ :: _ => rfl
  | a :: l, [] => rfl
  | a :: l, true :: m => by
    show a :: zm1 l m = a :: zm2 l m
    rw [zm12 l m]
  | a :: l, false :: m => zm12 l m
theorem zoe_ok : ∀ (l : va_W) (m : List Bool), zoe l m = true → zok l m = true ∧ l.length = m.length
  | [], [], _ => ⟨rfl, rfl⟩
  | [], _ :: _, h => by cases h
  | _ :: _, [], h => by cases h
  | a :: l, b :: m, h => ⟨(zoe_ok l m h).1, congrArg (· + 1) (zoe_ok l m h).2⟩
theorem zm_e : ∀ (m : List Bool) (X Y : va_W), zok X m = true → (zix Y.length m).map (fun i => (Y ++ X)[i]?) = (zm1 X m).map some
  | [], _, _, _ => rfl
  | b :: m, [], Y, h => by cases h
  | true :: m, a :: l, Y, h => by
    have ih := zm_e m l (Y ++ [a]) h
    rw [List.length_append, List.append_assoc] at ih
    show (Y ++ a :: l)[Y.length]? :: (zix (Y.length + 1) m).map (fun i => (Y ++ a :: l)[i]?) = some a :: (zm1 l m).map some
    rw [← ih, List.getElem?_append_right (Nat.le_refl _), Nat.sub_self]
    rfl
  | false :: m, a :: l, Y, h => by
    have ih := zm_e m l (Y ++ [a]) h
    rw [List.length_append, List.append_assoc] at ih
    exact ih
theorem zm_0 {m : List Bool} {X : va_W} (h : zok X m = true) : (zix 0 m).map (fun i => X[i]?) = (zm1 X m).map some := zm_e m X [] h
theorem zix_ge : ∀ (m : List Bool) (k i : Nat), i ∈ zix k m → k ≤ i
  | [], _, _, h => by cases h
  | true :: m, k, i, h => by
    rcases List.mem_cons.mp h with h | h
    · exact Nat.le_of_eq h.symm
    · exact Nat.le_of_succ_le (zix_ge m (k + 1) i h)
  | false :: m, k, i, h => Nat.le_of_succ_le (zix_ge m (k + 1) i h)
theorem zix_nd : ∀ (m : List Bool) (k : Nat), va_nd (zix k m) = true
  | [], _ => rfl
  | true :: m, k => by
    show (decide (k ∉ zix (k + 1) m) && va_nd (zix (k + 1) m)) = true
    rw [zix_nd m (k + 1), Bool.and_true]
    exact decide_eq_true (fun h => absurd (zix_ge m (k + 1) k h) (Nat.not_succ_le_self k))
  | false :: m, k => zix_nd m (k + 1)
def zmb : List Bool → Nat → Bool
  | [], _ => false
  | b :: _, 0 => b
  | _ :: m, n + 1 => zmb m n
theorem zix_b : ∀ (m : List Bool) (k i : Nat), i ∈ zix k m → zmb m (i - k) = true
  | [], _, _, h => by cases h
  | true :: m, k, i, h => by
    rcases List.mem_cons.mp h with h | h
    · rw [h, Nat.sub_self]; rfl
    · have g := zix_ge m (k + 1) i h
      have e : i - k = (i - (k + 1)) + 1 := by omega
      rw [e]
      exact zix_b m (k + 1) i h
  | false :: m, k, i, h => by
    have g := zix_ge m (k + 1) i h
    have e : i - k = (i - (k + 1)) + 1 := by omega
    rw [e]
    exact zix_b m (k + 1) i h
def zcov : Nat → List Bool → List Nat → Bool
  | _, [], _ => true
  | k, true :: m, is => zcov (k + 1) m is
  | k, false :: m, is => is.contains k && zcov (k + 1) m is
theorem zcov_m : ∀ (m : List Bool) (k : Nat) (is : List Nat), zcov k m is = true → ∀ j, k ≤ j → j < k + m.length → j ∈ zix k m ++ is
  | [], k, is, _, j, h1, h2 => absurd h2 (by rw [List.length_nil]; omega)
  | true :: m, k, is, h, j, h1, h2 => by
    rw [List.length_cons] at h2
    show j ∈ k :: (zix (k + 1) m ++ is)
    rcases Nat.eq_or_lt_of_le h1 with e | e
    · rw [e]; exact List.mem_cons_self
    · exact List.mem_cons_of_mem _ (zcov_m m (k + 1) is h j e (by omega))
  | false :: m, k, is, h, j, h1, h2 => by
    rw [List.length_cons] at h2
    obtain ⟨h3, h4⟩ := Bool.and_eq_true_iff.mp h
    show j ∈ zix (k + 1) m ++ is
    rcases Nat.eq_or_lt_of_le h1 with e | e
    · rw [← e]; exact List.mem_append_right _ (List.contains_iff_mem.mp h3)
    · exact zcov_m m (k + 1) is h4 j e (by omega)
theorem zod_x {L : List Nat} : ∀ (ks : List Nat), (∀ k ∈ ks, k ∈ L) → ∃ od : List Nat, od.map (fun i => L[i]?) = ks.map some
  | [], _ => ⟨[], rfl⟩
  | k :: ks, h => by
    obtain ⟨i, hi⟩ := List.getElem?_of_mem (h k List.mem_cons_self)
    obtain ⟨od, ho⟩ := zod_x ks (fun j hj => h j (List.mem_cons_of_mem _ hj))
    exact ⟨i :: od, by rw [List.map_cons, List.map_cons, ho, hi]⟩
theorem zod_n {f : Nat → Option Nat} : ∀ (od ks : List Nat), od.map f = ks.map some → va_nd ks = true → va_nd od = true
  | [], _, _, _ => rfl
  | i :: od, [], h, _ => by cases h
  | i :: od, k :: ks, h, hn => by
    rw [List.map_cons, List.map_cons] at h
    obtain ⟨h1, h2⟩ := List.cons.inj h
    have hn' : (decide (k ∉ ks) && va_nd ks) = true := hn
    obtain ⟨n1, n2⟩ := Bool.and_eq_true_iff.mp hn'
    have n3 : k ∉ ks := of_decide_eq_true n1
    show (decide (i ∉ od) && va_nd od) = true
    rw [zod_n od ks h2 n2, Bool.and_true]
    refine decide_eq_true (fun hi => n3 ?_)
    have g : f i ∈ od.map f := List.mem_map.mpr ⟨i, hi, rfl⟩
    rw [h2, h1] at g
    obtain ⟨j, hj, e⟩ := List.mem_map.mp g
    rw [← Option.some.inj e]
    exact hj
theorem zrg_n : ∀ (n k : Nat), va_nd (List.range' k n) = true
  | 0, _ => rfl
  | n + 1, k => by
    rw [List.range'_succ]
    show (decide (k ∉ List.range' (k + 1) n) && va_nd (List.range' (k + 1) n)) = true
    rw [zrg_n n (k + 1), Bool.and_true]
    exact decide_eq_true (fun h => absurd (List.mem_range'_1.mp h).1 (Nat.not_succ_le_self k))
def zkb (isC : List Nat) (mR mQ : List Bool) (isO : List Nat) : Bool := isC.all (fun i => !zmb mR i) && zcov 0 mQ isO
theorem zkb_e {isC : List Nat} {mR mQ : List Bool} {isO : List Nat} (h : zkb isC mR mQ isO = true) : (∀ i ∈ zix 0 mR, i ∉ isC) ∧ ∃ od : List Nat, od.map (fun i => (zix 0 mQ ++ isO)[i]?) = (List.range mQ.length).map some ∧ va_nd od = true := by
  obtain ⟨h0, h1⟩ := Bool.and_eq_true_iff.mp h
  refine ⟨fun i hi hc => ?_, ?_⟩
  · have g := List.all_eq_true.mp h0 i hc
    have g2 := zix_b mR 0 i hi
    rw [Nat.sub_zero] at g2
    rw [g2] at g
    cases g
  · obtain ⟨od, ho⟩ := zod_x (L := zix 0 mQ ++ isO) (List.range' 0 mQ.length) (fun k hk => zcov_m mQ 0 isO h1 k (Nat.zero_le _) (by have := (List.mem_range'_1.mp hk).2; omega))
    exact ⟨od, by rw [List.range_eq_range']; exact ho, zod_n _ _ ho (zrg_n _ _)⟩
section
variable {A0 : Nat → Prop} {D : va_G} {cl : List vw_C} {X cx w1 W2 ws wc pl pl1 : va_W} {H0 H H1 : Heap} {locs : List Loc}
theorem zm_r {mR mQ : List Bool} (hX : zok X mR = true) (hW : zoe W2 mQ = true) (ha : zm1 X mR = zm2 W2 mQ) : (zix 0 mR).map (fun i => X[i]?) = (zm2 W2 mQ).map some ∧ (zix 0 mQ).map (fun i => W2[i]?) = (zm2 W2 mQ).map some := by
  have e1 := zm_0 hX
  have e2 := zm_0 (zoe_ok _ _ hW).1
  rw [ha] at e1
  rw [zm12] at e2
  exact ⟨e1, e2⟩
theorem zn (hP : va_P D cl X H) (hD : va_D A0 X) (hk : ∀ q : Nat, q < H.size → ¬ va_A cx H.size q → H1[q]? = H[q]?) (hF : ∀ q, va_A cx H.size q → A0 q) (hP1 : va_P D cl w1 H1) (hD1 : va_D (va_A cx H.size) w1) (isC : List Nat) (mR mQ : List Bool) (isO : List Nat) (hn : zkb isC mR mQ isO = true) (hX : zok X mR = true) (hW : zoe W2 mQ = true) (hC : zp3 X isC = zS cx) (ha : zm1 X mR = zm2 W2 mQ) (hb : zp4 W2 isO = zS w1) : va_P D cl W2 H1 ∧ va_D A0 W2 := by
  rw [zp3_e, zS_e] at hC
  rw [zp4_e, zS_e] at hb
  obtain ⟨n2, od, n3, n4⟩ := zkb_e hn
  obtain ⟨e1, e2⟩ := zm_r hX hW ha
  obtain ⟨a, b⟩ := va_join hP hD isC _ hC e1 (zix_nd _ _) n2 hk hF hP1 hD1
  exact zq_sub a b od n4 (zj_od (zoe_ok _ _ hW).2 e2 hb n3)
theorem znQ (hP : va_P D cl (X ++ pl) H) (hD : va_D A0 (X ++ pl)) (hk : ∀ q : Nat, q < H.size → ¬ va_A cx H.size q → H1[q]? = H[q]?) (hF : ∀ q, va_A cx H.size q → A0 q) (hP1 : va_P D cl w1 H1) (hD1 : va_D (va_A cx H.size) w1) (isC : List Nat) (mR mQ : List Bool) (isO : List Nat) (hn : zkb isC mR mQ isO = true) (hX : zok X mR = true) (hW : zoe W2 mQ = true) (hC : zp3 X isC = zS cx) (ha : zm1 X mR = zm2 W2 mQ) (hb : zp4 W2 isO = zS w1) : va_P D cl (W2 ++ pl) H1 ∧ va_D A0 (W2 ++ pl) := by
  rw [zp3_e, zS_e] at hC
  rw [zp4_e, zS_e] at hb
  obtain ⟨n2, od, n3, n4⟩ := zkb_e hn
  obtain ⟨e1, e2⟩ := zm_r hX hW ha
  obtain ⟨a, b⟩ := va_joinQ hP hD isC _ hC e1 (zix_nd _ _) n2 hk hF hP1 hD1
  exact zq_part a b od n4 (zj_od (zoe_ok _ _ hW).2 e2 hb n3)
theorem znP (hP : va_P D cl (X ++ pl) H) (hD : va_D A0 (X ++ pl)) (hk : ∀ q : Nat, q < H.size → ¬ va_A (cx ++ pl) H.size q → H1[q]? = H[q]?) (hF : ∀ q, va_A (cx ++ pl) H.size q → A0 q) (hP1 : va_P D cl (w1 ++ pl1) H1) (hD1 : va_D (va_A (cx ++ pl) H.size) (w1 ++ pl1)) (isC : List Nat) (mR mQ : List Bool) (isO : List Nat) (hn : zkb isC mR mQ isO = true) (hX : zok X mR = true) (hW : zoe W2 mQ = true) (hC : zp3 X isC = zS cx) (ha : zm1 X mR = zm2 W2 mQ) (hb : zp4 W2 isO = zS w1) : va_P D cl (W2 ++ pl1) H1 ∧ va_D A0 (W2 ++ pl1) := by
  rw [zp3_e, zS_e] at hC
  rw [zp4_e, zS_e] at hb
  obtain ⟨n2, od, n3, n4⟩ := zkb_e hn
  obtain ⟨e1, e2⟩ := zm_r hX hW ha
  obtain ⟨a, b⟩ := va_joinP hP hD isC _ hC e1 (zix_nd _ _) n2 hk hF hP1 hD1
  exact zq_part a b od n4 (zj_od (zoe_ok _ _ hW).2 e2 hb n3)
theorem zo_sub (hP : va_P D cl ws H) (hD : va_D A0 ws) (hS : va_S A0 H0 H locs) (hA : ∀ q, H0.size ≤ q → A0 q) (is : List Nat) (hn : va_nd is = true) (hs : zp3 ws is = zS wc) : va_P D cl wc H ∧ va_D A0 wc ∧ ∀ q, va_A wc H.size q → A0 q :=
  zc_sub hP hD hS hA is hn ((zp3_e ws is).symm.trans (hs.trans (zS_e wc)))
theorem zo_part (hP : va_P D cl (X ++ pl) H) (hD : va_D A0 (X ++ pl)) (hS : va_S A0 H0 H locs) (hA : ∀ q, H0.size ≤ q → A0 q) (is : List Nat) (hn : va_nd is = true) (hs : zp3 X is = zS cx) : va_P D cl (cx ++ pl) H ∧ va_D A0 (cx ++ pl) ∧ ∀ q, va_A (cx ++ pl) H.size q → A0 q :=
  zc_part hP hD hS hA is hn ((zp3_e X is).symm.trans (hs.trans (zS_e cx)))
theorem zu_sub (hP : va_P D cl ws H) (hD : va_D A0 ws) (m : List Bool) (hX : zok ws m = true) (hs : zm1 ws m = wc) : va_P D cl wc H ∧ va_D A0 wc := by
  have e := zm_0 hX
  rw [hs] at e
  exact zq_sub hP hD _ (zix_nd _ _) e
theorem zu_part (hP : va_P D cl (X ++ pl) H) (hD : va_D A0 (X ++ pl)) (m : List Bool) (hX : zok X m = true) (hs : zm1 X m = cx) : va_P D cl (cx ++ pl) H ∧ va_D A0 (cx ++ pl) := by
  have e := zm_0 hX
  rw [hs] at e
  exact zq_part hP hD _ (zix_nd _ _) e
end
end
