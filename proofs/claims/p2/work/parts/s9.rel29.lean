/-! all that holds between two calls, but for the cells -/
def capC (Sn AD C : Nat) : Nat := (Sn + 1) * (1 + 18 * AD + 2 * C)
def INV (K Sn AD C : Nat) (cc W : Nat → Nat) (bs T ft cp ln cl : Nat) (FT : Nat → Nat) (V : Nat → Nat → Nat → Int32) (VX VY : Nat → Nat → Int32) (tn rk wd tw pa pb kd st it mn cx cy sa sh lb lc : Nat → Int32) : Prop :=
  (wfS ft kd st tn mn it cx cy ∧ (∀ q, q < FT T → (0 ≤ (rk q).toInt ∧ (rk q).toInt ≤ 9) ∧ (0 ≤ (wd q).toInt ∧ (wd q).toInt ≤ 100)) ∧ bdC cc AD ft kd st mn tn ∧ ∀ q, q < 200 → ¬ (tn q).toInt = 0 → mn q = 0) ∧
  (∀ t, bs ≤ t → t ≤ T → wfV FT V VX VY tn t ∧ bdC cc AD (FT t) (V t 0) (V t 1) (V t 4) tn) ∧
  (kpB sa sh pa pb rk wd tw tn bs T FT V VX VY W ∧ 1 ≤ cp ∧ pw 1 cp ∧ W T ≤ 4096 * cp ∧ (bs < T → psN (nnV V tn T) (W T) (FT T) ≤ 4096 * cp) ∧ (cp = 1 ∨ 2048 * cp ≤ capC Sn AD C)) ∧
  (smN cc 200 ≤ C ∧ AD + C + Sn ≤ K ∧ T ≤ Sn) ∧
  (ln ≤ 64 * cl ∧ 1 ≤ cl ∧ ln ≤ Sn * C ∧ (cl = 1 ∨ 32 * cl ≤ Sn * C) ∧ ∀ j, j < ln → pl (lb j) ∧ pl (lc j))
theorem capC_le {Sn Sn1 AD AD1 C C1 : Nat} (h1 : Sn ≤ Sn1) (h2 : AD ≤ AD1) (h3 : C ≤ C1) : capC Sn AD C ≤ capC Sn1 AD1 C1 := Nat.mul_le_mul (by omega) (by omega)
/-- a product of two numbers whose sum is at most 514 -/
theorem sq_257 (a : Int) : (257 - a) * (257 - a) = 66049 - a * (514 - a) := by grind
theorem mul_514 {a b : Nat} (h : a + b ≤ 514) : a * b ≤ 66049 := by
  have hb : b ≤ 514 - a := by omega
  have h1 : a * b ≤ a * (514 - a) := Nat.mul_le_mul (Nat.le_refl _) hb
  have hz : (0 : Int) ≤ (257 - (a : Int)) * (257 - (a : Int)) := gg_0
  rw [sq_257] at hz
  have e3 : ((514 - a : Nat) : Int) = 514 - (a : Int) := by omega
  have e2 : ((a * (514 - a) : Nat) : Int) = (a : Int) * (514 - (a : Int)) := by rw [Int.natCast_mul, e3]
  omega
theorem capC_b {Sn AD C : Nat} (h : AD + C + Sn ≤ 512) : capC Sn AD C ≤ 1200000 := by
  have h1 : capC Sn AD C ≤ (Sn + 1) * (1 + 18 * (AD + C)) := Nat.mul_le_mul (Nat.le_refl _) (by omega)
  have h2 := mul_514 (a := Sn + 1) (b := AD + C) (by omega)
  have h3 : (Sn + 1) * (1 + 18 * (AD + C)) = (Sn + 1) + 18 * ((Sn + 1) * (AD + C)) := by rw [Nat.mul_add, Nat.mul_one, Nat.mul_left_comm]
  omega
theorem pw_512 {c : Nat} (h : pw 1 c) (hc : c < 1024) : c ≤ 512 := by
  obtain ⟨k, rfl⟩ := h
  rw [Nat.one_mul] at hc ⊢
  rcases Nat.lt_or_ge k 10 with g | g
  · have : 2 ^ k ≤ 2 ^ 9 := Nat.pow_le_pow_right (by omega) (by omega)
    omega
  · have : 2 ^ 10 ≤ 2 ^ k := Nat.pow_le_pow_right (by omega) g
    omega
section
variable {K Sn AD C : Nat} {cc W : Nat → Nat} {bs dn T ft cp ln cl : Nat} {FT : Nat → Nat} {V : Nat → Nat → Nat → Int32} {VX VY : Nat → Nat → Int32} {tn rk wd tw pa pb kd st gb it mn cx cy sa sh lb lc sh2 tn1 rk1 wd1 tw1 pa1 pb1 kd1 st1 gb1 it1 mn1 cx1 cy1 lb1 lc1 : Nat → Int32}
theorem bdC_tn {F : Nat} {k s m : Nat → Int32} (h : bdC cc AD F k s m tn) (ht : ∀ q, q < F → tn1 q = tn q) : bdC cc AD F k s m tn1 := ⟨h.1, fun q hq g => h.2 q hq (by rw [← ht q hq]; exact g)⟩
theorem wfV_tn {t : Nat} (h : wfV FT V VX VY tn t) (ht : ∀ q, q < FT t → tn1 q = tn q) : wfV FT V VX VY tn1 t := fun q hq o => by rw [ht q hq]; exact h q hq o
theorem INV_K (h : INV K Sn AD C cc W bs T ft cp ln cl FT V VX VY tn rk wd tw pa pb kd st it mn cx cy sa sh lb lc) : INV (K + 1) Sn AD C cc W bs T ft cp ln cl FT V VX VY tn rk wd tw pa pb kd st it mn cx cy sa sh lb lc :=
  ⟨h.1, h.2.1, h.2.2.1, ⟨h.2.2.2.1.1, by have := h.2.2.2.1.2.1; omega, h.2.2.2.1.2.2⟩, h.2.2.2.2⟩
theorem INV_cp (h : INV K Sn AD C cc W bs T ft cp ln cl FT V VX VY tn rk wd tw pa pb kd st it mn cx cy sa sh lb lc) (hK : K ≤ 512) : cp ≤ 512 := by
  obtain ⟨_, _, ⟨_, _, h3, _, _, h6⟩, ⟨_, h8, _⟩, _⟩ := h
  have := capC_b (Sn := Sn) (AD := AD) (C := C) (by omega)
  exact pw_512 h3 (by omega)
/-- where a position lies -/
theorem INV_W (h : INV K Sn AD C cc W bs T ft cp ln cl FT V VX VY tn rk wd tw pa pb kd st it mn cx cy sa sh lb lc) (h200 : ∀ t, bs ≤ t → t ≤ T → FT t ≤ 200) : ∀ k, bs + k ≤ T → W (bs + k) ≤ k * (1 + 18 * AD + 2 * C) := by
  intro k
  induction k with
  | zero => intro _; rw [show bs + 0 = bs from rfl, h.2.2.1.1.1]; omega
  | succ k ih =>
    intro hk
    have h1 := ih (by omega)
    have h2 := h.2.2.1.1.2.2.1 (bs + k) (by omega) (by omega)
    have h3 := bdC_p2 (h.2.1 (bs + k) (by omega) (by omega)).2 (h200 _ (by omega) (by omega)) h.2.2.2.1.1 (w := W (bs + k))
    have h4 : W (bs + (k + 1)) = psN (nnV V tn (bs + k)) (W (bs + k)) (FT (bs + k)) := h2
    rw [Nat.succ_mul]
    show W (bs + (k + 1)) ≤ _
    rw [h4]
    exact Nat.le_trans h3 (by omega)
/-- room for two sheets more -/
theorem INV_fit {F1 F2 : Nat} {k1 s1 m1 t1 k2 s2 m2 t2 : Nat → Int32} (h : INV K Sn AD C cc W bs T ft cp ln cl FT V VX VY tn rk wd tw pa pb kd st it mn cx cy sa sh lb lc) (hK : K + 1 ≤ 512) (hb : bs ≤ dn) (hd : dn ≤ T) (h200 : ∀ t, bs ≤ t → t ≤ T → FT t ≤ 200) (b1 : bdC cc AD F1 k1 s1 m1 t1) (f1 : F1 ≤ 200) (b2 : bdC cc AD F2 k2 s2 m2 t2) (f2 : F2 ≤ 200) :
    ∃ c1 c2, pw cp c1 ∧ W dn ≤ 4096 * cp ∧ psN (nnF s1 t1 m1) (W dn) F1 ≤ 4096 * c1 ∧ (c1 = cp ∨ 2048 * c1 < psN (nnF s1 t1 m1) (W dn) F1) ∧ c1 ≤ 512 ∧ pw c1 c2 ∧ psN (nnF s2 t2 m2) (psN (nnF s1 t1 m1) (W dn) F1) F2 ≤ 4096 * c2 ∧ (c2 = c1 ∨ 2048 * c2 < psN (nnF s2 t2 m2) (psN (nnF s1 t1 m1) (W dn) F1) F2) ∧ c2 ≤ 512 ∧ pw 1 c2 ∧ (c2 = 1 ∨ 2048 * c2 ≤ capC (Sn + 1) AD C) := by
  have hcp := INV_cp h (by omega)
  have hW := INV_W h h200 (dn - bs) (by omega)
  rw [show bs + (dn - bs) = dn by omega] at hW
  have hWT := kpB_le h.2.2.1.1 hb hd (Nat.le_refl _)
  obtain ⟨_, _, ⟨h1, h2, h3, h4, h5, h6⟩, ⟨h7, h8, h9⟩, _⟩ := h
  have q1 := bdC_p2 b1 f1 h7 (w := W dn)
  have q2 := bdC_p2 b2 f2 h7 (w := psN (nnF s1 t1 m1) (W dn) F1)
  generalize psN (nnF s1 t1 m1) (W dn) F1 = P1 at q1 q2 ⊢
  generalize psN (nnF s2 t2 m2) P1 F2 = P2 at q2 ⊢
  have hm : (dn - bs) * (1 + 18 * AD + 2 * C) + 2 * (1 + 18 * AD + 2 * C) ≤ capC (Sn + 1) AD C := by
    unfold capC
    rw [← Nat.add_mul]
    exact Nat.mul_le_mul (by omega) (Nat.le_refl _)
  have hB := capC_b (Sn := Sn + 1) (AD := AD) (C := C) (by omega)
  have hmo := capC_le (Sn := Sn) (Sn1 := Sn + 1) (AD := AD) (AD1 := AD) (C := C) (C1 := C) (by omega) (Nat.le_refl _) (Nat.le_refl _)
  obtain ⟨c1, e1, e2, e3⟩ := pw_ex P1 P1 cp h2 (by omega)
  have l1 := pw_le e1
  have p1 : pw 1 c1 := pw_tr h3 e1
  have c1b : c1 ≤ 512 := pw_512 p1 (by omega)
  obtain ⟨c2, g1, g2, g3⟩ := pw_ex P2 P2 c1 (by omega) (by omega)
  have p2 : pw 1 c2 := pw_tr p1 g1
  have c2b : c2 ≤ 512 := pw_512 p2 (by omega)
  exact ⟨c1, c2, e1, by omega, e2, e3, c1b, g1, g2, g3, c2b, p2, by omega⟩
end
section
variable {K Sn AD C : Nat} {cc W : Nat → Nat} {bs dn T ft ft1 cp ln cl c2 ln1 cl1 P1 P2 : Nat} {FT : Nat → Nat} {V : Nat → Nat → Nat → Int32} {VX VY : Nat → Nat → Int32} {tn rk wd tw pa pb kd st gb it mn cx cy sa sh lb lc sh2 tn1 rk1 wd1 tw1 pa1 pb1 kd1 st1 gb1 it1 mn1 cx1 cy1 lb1 lc1 : Nat → Int32}
/-- a step -/
theorem INV_step (h : INV K Sn AD C cc W bs T ft cp ln cl FT V VX VY tn rk wd tw pa pb kd st it mn cx cy sa sh lb lc) (hp : poS bs dn T ft FT V VX VY tn kd st gb it mn cx cy) (hP1 : P1 = psN (nnF st tn mn) (W dn) ft) (hP2 : P2 = psN (nnF st1 tn1 mn1) P1 ft1)
    (p0 : sh2 (W dn) = nI ft) (p1 : ∀ j, j < W dn → sh2 j = sh j) (p2 : ∀ g, g < ft → ∀ j, j < 10 + 2 * (nnF st tn mn) g → sh2 (psN (nnF st tn mn) (W dn) g + j) = (shD kd st gb it pa pb rk wd tw (nnF st tn mn) cx cy) g j)
    (p3 : sh2 P1 = nI ft1) (p4 : ∀ g, g < ft1 → ∀ j, j < 10 + 2 * (nnF st1 tn1 mn1) g → sh2 (psN (nnF st1 tn1 mn1) P1 g + j) = (shD kd1 st1 gb1 it1 pa1 pb1 rk1 wd1 tw1 (nnF st1 tn1 mn1) cx1 cy1) g j)
    (hs : ∀ g, g < ft → pa1 g = pa g ∧ pb1 g = pb g ∧ rk1 g = rk g ∧ wd1 g = wd g ∧ tw1 g = tw g ∧ tn1 g = tn g) (hw : wfS ft1 kd1 st1 tn1 mn1 it1 cx1 cy1) (hr : ∀ q, q < ft1 → (0 ≤ (rk1 q).toInt ∧ (rk1 q).toInt ≤ 9) ∧ (0 ≤ (wd1 q).toInt ∧ (wd1 q).toInt ≤ 100)) (hb : bdC cc AD ft1 kd1 st1 mn1 tn1) (ht0 : ∀ q, q < 200 → ¬ (tn1 q).toInt = 0 → mn1 q = 0)
    (hc1 : 1 ≤ c2) (hc2 : pw 1 c2) (hc3 : P2 ≤ 4096 * c2) (hc4 : c2 = 1 ∨ 2048 * c2 ≤ capC (Sn + 1) AD C) (hl : ln1 ≤ 64 * cl1 ∧ 1 ≤ cl1 ∧ ln1 ≤ (Sn + 1) * C ∧ (cl1 = 1 ∨ 32 * cl1 ≤ (Sn + 1) * C) ∧ ∀ j, j < ln1 → pl (lb1 j) ∧ pl (lc1 j)) :
    INV (K + 1) (Sn + 1) AD C cc (upN W (dn + 1) P1) bs (dn + 1) ft1 c2 ln1 cl1 (upN FT (dn + 1) ft1) (upN V (dn + 1) (vC kd1 st1 gb1 it1 mn1)) (upN VX (dn + 1) cx1) (upN VY (dn + 1) cy1) tn1 rk1 wd1 tw1 pa1 pb1 kd1 st1 it1 mn1 cx1 cy1 (upd (upd sa (dn - bs + 1) (nI P1)) (dn + 1 - bs + 1) (nI P2)) sh2 lb1 lc1 := by
  obtain ⟨⟨a1, a2, a3⟩, b1, ⟨k1, k2, k3, k4, k5, k6⟩, ⟨n1, n2, n3⟩, l1⟩ := h
  obtain ⟨⟨q1, q2, q3, q4, q5⟩, q6, q7, q8⟩ := hp
  have hmo : ∀ t, bs ≤ t → t ≤ dn → FT t ≤ ft := fun t t1 t2 => by rw [q4]; exact q6 t dn t1 t2 q2
  have hk := kpB_step (P2 := P2) k1 q1 q2 q7 q4 hmo hP1 p0 p1 p2 p3 p4 hs
  have hPw := psN_ge (nnF st1 tn1 mn1) P1 ft1
  refine ⟨⟨hw, fun q hq => hr q (by rw [upN_at] at hq; exact hq), hb, ht0⟩, fun t t1 t2 => ?_, ⟨hk, hc1, hc2, by rw [upN_at]; omega, fun _ => ?_, hc4⟩, ⟨n1, by omega, by omega⟩, hl⟩
  · by_cases e : t = dn + 1
    · rw [e]
      refine ⟨fun q hq o => ?_, ?_⟩
      · rw [upN_at] at hq
        rw [upN_at, upN_at, upN_at]; exact hw q hq
      · rw [upN_at, upN_at]; exact hb
    · have ht := hmo t t1 (by omega)
      have tt : ∀ q, q < FT t → tn1 q = tn q := fun q hq => (hs q (by omega)).2.2.2.2.2
      obtain ⟨v, d⟩ := b1 t t1 (by omega)
      refine ⟨fun q hq o => ?_, ?_⟩
      · rw [upN_o e] at hq o
        rw [upN_o e, upN_o e, upN_o e]; exact wfV_tn v tt q hq o
      · rw [upN_o e, upN_o e]; exact bdC_tn d tt
  · rw [show nnV (upN V (dn + 1) (vC kd1 st1 gb1 it1 mn1)) tn1 (dn + 1) = nnF st1 tn1 mn1 by show nnF (upN V (dn + 1) _ (dn + 1) 1) tn1 (upN V (dn + 1) _ (dn + 1) 4) = _; rw [upN_at]; rfl, upN_at, upN_at, ← hP2]
    exact hc3
/-- what is no step -/
theorem INV_seal (h : INV K Sn AD C cc W bs T ft cp ln cl FT V VX VY tn rk wd tw pa pb kd st it mn cx cy sa sh lb lc) {AD1 : Nat} {sa1 : Nat → Int32} (hd : dn ≤ T) (h0 : sa1 0 = nI 0) (hA : AD ≤ AD1 ∧ AD1 ≤ AD + 1) (hw : wfS ft1 kd1 st1 tn1 mn1 it1 cx1 cy1) (hr : ∀ q, q < ft1 → (0 ≤ (rk1 q).toInt ∧ (rk1 q).toInt ≤ 9) ∧ (0 ≤ (wd1 q).toInt ∧ (wd1 q).toInt ≤ 100)) (hb : bdC cc AD1 ft1 kd1 st1 mn1 tn1) (ht0 : ∀ q, q < 200 → ¬ (tn1 q).toInt = 0 → mn1 q = 0) :
    INV (K + 1) Sn AD1 C cc (fun _ => 0) dn dn ft1 cp ln cl (fun _ => ft1) (fun _ => vC kd1 st1 gb1 it1 mn1) (fun _ => cx1) (fun _ => cy1) tn1 rk1 wd1 tw1 pa1 pb1 kd1 st1 it1 mn1 cx1 cy1 sa1 sh lb lc := by
  obtain ⟨⟨a1, a2, a3⟩, b1, ⟨k1, k2, k3, k4, k5, k6⟩, ⟨n1, n2, n3⟩, l1⟩ := h
  have hm := capC_le (Sn := Sn) (Sn1 := Sn) (AD := AD) (AD1 := AD1) (C := C) (C1 := C) (Nat.le_refl _) hA.1 (Nat.le_refl _)
  exact ⟨⟨hw, hr, hb, ht0⟩, fun t t1 t2 => ⟨fun q hq _ => hw q hq, hb⟩, ⟨kpB_0 h0, k2, k3, Nat.zero_le _, fun g => absurd g (Nat.lt_irrefl _), by omega⟩, ⟨n1, by omega, by omega⟩, l1⟩
/-- a corner more -/
theorem INV_cor {f : Nat} {px py : Int32} (h : INV K Sn AD C cc W bs T ft cp ln cl FT V VX VY tn rk wd tw pa pb kd st it mn cx cy sa sh lb lc) (hf : f < ft) (hs : (st f).toInt = 0) (ht : (tn f).toInt = 0) (hn : nN (mn f) < (if (kd f).toInt = 0 then 1 else 40)) (hx : pl px) (hy : pl py) :
    INV (K + 1) Sn AD (C + 1) (upN cc f (cc f + 1)) W bs T ft cp ln cl FT V VX VY tn rk wd tw pa pb kd st it (upd mn f (nI (nN (mn f) + 1))) (upd cx (40 * f + nN (mn f)) px) (upd cy (40 * f + nN (mn f)) py) sa sh lb lc := by
  obtain ⟨⟨a1, a2, a3⟩, b1, ⟨k1, k2, k3, k4, k5, k6⟩, ⟨n1, n2, n3⟩, l1, l2, l3, l4, l5⟩ := h
  have hm := capC_le (Sn := Sn) (Sn1 := Sn) (AD := AD) (AD1 := AD) (C := C) (C1 := C + 1) (Nat.le_refl _) (Nat.le_refl _) (by omega)
  have hcc : ∀ q, cc q ≤ upN cc f (cc f + 1) q := fun q => by
    by_cases e : q = f
    · rw [e, upN_at]; omega
    · rw [upN_o e]; exact Nat.le_refl _
  have hn40 : nN (mn f) < 40 := by split at hn <;> omega
  have hl : Sn * C ≤ Sn * (C + 1) := Nat.mul_le_mul (Nat.le_refl _) (by omega)
  have hsm := (smN_up cc (f := f) 200).1
  exact ⟨⟨wfS_cor a1 hf hs ht hn hx hy, a2, bdC_cor a3.1 hn40, fun q hq g => by rw [upo9 (fun e => g (by rw [e]; exact ht))]; exact a3.2 q hq g⟩, fun t t1 t2 => ⟨(b1 t t1 t2).1, bdC_mono (b1 t t1 t2).2 (Nat.le_refl _) hcc⟩, ⟨k1, k2, k3, k4, k5, by omega⟩, ⟨by omega, by omega, n3⟩, l1, l2, by omega, by omega, l5⟩
/-- a position is taken up -/
theorem INV_pos {t : Nat} (h : INV K Sn AD C cc W bs T ft cp ln cl FT V VX VY tn rk wd tw pa pb kd st it mn cx cy sa sh lb lc) (hp : poS bs dn T ft FT V VX VY tn kd st gb it mn cx cy) (h1 : bs ≤ t) (h2 : t ≤ T) (hm : ∀ q, q < FT t → (¬ (V t 1 q).toInt = 0 ∧ (tn q).toInt = 0) → mn1 q = nI (nN (mn1 q))) (ht0 : ∀ q, ¬ (tn q).toInt = 0 → mn1 q = mn q)
    (hc : ∀ q, q < FT t → kd1 q = V t 0 q ∧ st1 q = V t 1 q ∧ gb1 q = V t 2 q ∧ it1 q = V t 3 q ∧ ((¬ (V t 1 q).toInt = 0 ∧ (tn q).toInt = 0) → nN (mn1 q) = nN (V t 4 q) ∧ ∀ k, k < nN (V t 4 q) → cF40 cx1 q k = cF40 (VX t) q k ∧ cF40 cy1 q k = cF40 (VY t) q k) ∧ ((V t 1 q).toInt = 0 → mn1 q = mn q ∧ ∀ k, k < 40 → cF40 cx1 q k = cF40 cx q k ∧ cF40 cy1 q k = cF40 cy q k)) :
    INV (K + 1) Sn AD C cc W bs T (FT t) cp ln cl FT V VX VY tn rk wd tw pa pb kd1 st1 it1 mn1 cx1 cy1 sa sh lb lc := by
  obtain ⟨⟨a1, a2, a3⟩, b1, k1, ⟨n1, n2, n3⟩, l1⟩ := h
  have hw := rs_wf hp h1 h2 a1 (b1 t h1 h2).1 hm hc
  refine ⟨⟨hw, a2, ?_, fun q hq g => by rw [ht0 q g]; exact a3.2 q hq g⟩, b1, k1, ⟨n1, by omega, n3⟩, l1⟩
  have d := (b1 t h1 h2).2
  obtain ⟨⟨p1, p2, p3, p4, p5⟩, p6, p7, p8⟩ := hp
  refine ⟨?_, fun q hq t0 => ?_⟩
  · have e : cntP (fun q => (st1 q).toInt = 1) (FT t) = cntP (fun q => (V t 1 q).toInt = 1) (FT t) := cntP_cg (fun q hq => by rw [(hc q hq).2.1])
    rw [e]; exact d.1
  · obtain ⟨c1, c2, c3, c4, c5, c6⟩ := hc q hq
    by_cases o : (V t 1 q).toInt = 0
    · have e := p8 t h1 h2 q hq (Or.inl o)
      have hqf : q < ft := by rw [p4]; exact Nat.lt_of_lt_of_le e.1 (p6 bs dn (Nat.le_refl _) p1 p2)
      rw [(c6 o).1, c1, e.2.1, (p7 q hqf).1]; exact a3.1.2 q hqf t0
    · rw [(c5 ⟨o, t0⟩).1, c1]; exact d.2 q hq t0
end
theorem ub_s {U Sn AD C s : Nat} (h : U ≤ Sn * (28 * (AD + C) + 1000) + 200 * (AD + C)) (hs : s ≤ 28 * (AD + C) + 1000) : U + s ≤ (Sn + 1) * (28 * (AD + C) + 1000) + 200 * (AD + C) := by
  rw [Nat.succ_mul]; omega
theorem ub_f {U Sn AD C AD1 C1 s : Nat} (h : U ≤ Sn * (28 * (AD + C) + 1000) + 200 * (AD + C)) (h1 : AD + C + 1 ≤ AD1 + C1) (hs : s ≤ 200) : U + s ≤ Sn * (28 * (AD1 + C1) + 1000) + 200 * (AD1 + C1) := by
  have h2 : Sn * (28 * (AD + C) + 1000) ≤ Sn * (28 * (AD1 + C1) + 1000) := Nat.mul_le_mul (Nat.le_refl _) (by omega)
  omega
