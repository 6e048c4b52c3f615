/-! a sheet is kept, and nothing came of it -/
section
variable {K Sn AD C : Nat} {cc W : Nat → Nat} {bs dn T ft cp ln cl c1 P1 : Nat} {FT : Nat → Nat} {V : Nat → Nat → Nat → Int32} {VX VY : Nat → Nat → Int32} {tn rk wd tw pa pb kd st gb it mn cx cy sa sh lb lc sh1 lb1 lc1 : Nat → Int32}
theorem nnV_dn (hD : HiD dn ft V VX VY kd st gb it tn mn cx cy) : ∀ g, g < ft → nnV V tn dn g = nnF st tn mn g := fun g hg => by
  have d := hD g hg
  show nnF (V dn 1) tn (V dn 4) g = _
  unfold nnF
  rw [d.2.1]
  by_cases c : (tn g).toInt = 0 ∧ ¬ (st g).toInt = 0
  · rw [if_pos c, if_pos c]; exact (d.2.2.2.2 c.2 c.1).1
  · rw [if_neg c, if_neg c]
theorem INV_fit1 (h : INV K Sn AD C cc W bs T ft cp ln cl FT V VX VY tn rk wd tw pa pb kd st it mn cx cy sa sh lb lc) (hK : K + 1 ≤ 512) (hp : poS bs dn T ft FT V VX VY tn kd st gb it mn cx cy) :
    ∃ c1, pw cp c1 ∧ W dn ≤ 4096 * cp ∧ psN (nnF st tn mn) (W dn) ft ≤ 4096 * c1 ∧ (c1 = cp ∨ 2048 * c1 < psN (nnF st tn mn) (W dn) ft) ∧ c1 ≤ 512 ∧ pw 1 c1 ∧ (c1 = 1 ∨ 2048 * c1 ≤ capC Sn AD C) := by
  obtain ⟨⟨q1, q2, q3, q4, q5⟩, q6, q7, q8⟩ := hp
  have h200 : ∀ t, bs ≤ t → t ≤ T → FT t ≤ 200 := fun t t1 t2 => Nat.le_trans (q6 t T t1 t2 (Nat.le_refl _)) q5
  have hcp := INV_cp h (by omega)
  have hW := INV_W h h200 (dn - bs) (by omega)
  rw [show bs + (dn - bs) = dn by omega] at hW
  have hWT := kpB_le h.2.2.1.1 q1 q2 (Nat.le_refl _)
  have hf := h200 dn q1 q2
  obtain ⟨⟨_, _, a3, _⟩, _, ⟨h1, h2, h3, h4, h5, h6⟩, ⟨h7, h8, h9⟩, _⟩ := h
  have e1 := bdC_p2 a3 (by omega) h7 (w := W dn)
  generalize psN (nnF st tn mn) (W dn) ft = P1 at e1 ⊢
  have hm : (dn - bs) * (1 + 18 * AD + 2 * C) + (1 + 18 * AD + 2 * C) ≤ capC Sn AD C := by
    unfold capC
    rw [← Nat.succ_mul]
    exact Nat.mul_le_mul (by omega) (Nat.le_refl _)
  have hB := capC_b (Sn := Sn) (AD := AD) (C := C) (by omega)
  obtain ⟨c1, g1, g2, g3⟩ := pw_ex P1 P1 cp h2 (by omega)
  have p1 : pw 1 c1 := pw_tr h3 g1
  have c1b : c1 ≤ 512 := pw_512 p1 (by omega)
  exact ⟨c1, g1, by omega, g2, g3, c1b, p1, by omega⟩
theorem INV_keep (h : INV K Sn AD C cc W bs T ft cp ln cl FT V VX VY tn rk wd tw pa pb kd st it mn cx cy sa sh lb lc) (hp : poS bs dn T ft FT V VX VY tn kd st gb it mn cx cy) (hP1 : P1 = psN (nnF st tn mn) (W dn) ft)
    (p0 : sh1 (W dn) = nI ft) (p1 : ∀ j, j < W dn → sh1 j = sh j) (p2 : ∀ g, g < ft → ∀ j, j < 10 + 2 * nnF st tn mn g → sh1 (psN (nnF st tn mn) (W dn) g + j) = (shD kd st gb it pa pb rk wd tw (nnF st tn mn) cx cy) g j) (po : ∀ j, psN (nnF st tn mn) (W dn) ft ≤ j → j < 4096 * cp → sh1 j = sh j)
    (hl : (∀ j, j < ln → pl (lb j) ∧ pl (lc j)) → ∀ j, j < ln → pl (lb1 j) ∧ pl (lc1 j)) (hc0 : pw cp c1) (hc1 : pw 1 c1) (hc2 : c1 = 1 ∨ 2048 * c1 ≤ capC Sn AD C) :
    INV (K + 1) Sn AD C cc W bs T ft c1 ln cl FT V VX VY tn rk wd tw pa pb kd st it mn cx cy (upd sa (dn - bs + 1) (nI P1)) sh1 lb1 lc1 := by
  obtain ⟨a, b1, ⟨k1, k2, k3, k4, k5, k6⟩, ⟨n1, n2, n3⟩, l1, l2, l3, l4, l5⟩ := h
  obtain ⟨⟨q1, q2, q3, q4, q5⟩, q6, q7, q8⟩ := hp
  have hnn := nnV_dn q7
  have hps : psN (nnV V tn dn) (W dn) (FT dn) = psN (nnF st tn mn) (W dn) ft := by rw [← q4]; exact psN_cg hnn ft (Nat.le_refl _)
  have hle := pw_le hc0
  have hW1 : dn < T → W (dn + 1) = P1 := fun g => by rw [k1.2.2.1 dn q1 g, hps, hP1]
  refine ⟨a, b1, ⟨⟨k1.1, fun t t1 t2 => ?_, k1.2.2.1, fun g t t1 t2 => ?_⟩, by omega, hc1, by omega, fun g => by have := k5 g; omega, hc2⟩, ⟨n1, by omega, n3⟩, l1, l2, l3, l4, hl l5⟩
  · by_cases e : t = dn + 1
    · rw [e, show dn + 1 - bs = dn - bs + 1 by omega, up_at, hW1 (by omega)]
    · rw [upo9 (by omega)]; exact k1.2.1 t t1 t2
  · have hb := k1.2.2.2 g t t1 t2
    rcases Nat.lt_trichotomy t dn with c | c | c
    · have hw : psN (nnV V tn t) (W t) (FT t) ≤ W dn := by rw [← k1.2.2.1 t t1 (by omega)]; exact kpB_le k1 (by omega) (by omega) q2
      exact blK_cg hb (fun j _ hj => p1 j (by have : j < psN (nnV V tn t) (W t) (FT t) := hj; omega)) (fun g hg => ⟨rfl, rfl, rfl, rfl, rfl, rfl⟩) (fun g hg => ⟨rfl, rfl, rfl, rfl, rfl, fun k _ => ⟨rfl, rfl⟩⟩)
    · rw [c]
      have b : blK sh1 pa pb rk wd tw tn ft (vC kd st gb it mn) cx cy (W dn) := ⟨p0, p2⟩
      rw [← q4]
      refine blK_cg b (fun j _ _ => rfl) (fun g hg => ⟨rfl, rfl, rfl, rfl, rfl, rfl⟩) (fun g hg => ?_)
      have d := q7 g hg
      refine ⟨d.1, d.2.1, d.2.2.1, d.2.2.2.1, hnn g hg, fun k hk => ?_⟩
      have hk : k < nnF st tn mn g := hk
      unfold nnF at hk
      by_cases c : (tn g).toInt = 0 ∧ ¬ (st g).toInt = 0
      · rw [if_pos c] at hk
        exact (d.2.2.2.2 c.2 c.1).2 k hk
      · rw [if_neg c] at hk; omega
    · have hw1 : P1 ≤ W t := by rw [← hW1 (by omega)]; exact kpB_le k1 (by omega) (by omega) t2
      have hw2 : psN (nnV V tn t) (W t) (FT t) ≤ 4096 * cp := by
        by_cases e : t = T
        · rw [e]; exact k5 g
        · rw [← k1.2.2.1 t t1 (by omega)]
          have := kpB_le k1 (show bs ≤ t + 1 by omega) (show t + 1 ≤ T by omega) (Nat.le_refl _); omega
      exact blK_cg hb (fun j hj1 hj => po j (by omega) (by have : j < psN (nnV V tn t) (W t) (FT t) := hj; omega)) (fun g hg => ⟨rfl, rfl, rfl, rfl, rfl, rfl⟩) (fun g hg => ⟨rfl, rfl, rfl, rfl, rfl, fun k _ => ⟨rfl, rfl⟩⟩)
end
/-! room -/
theorem mul_3 {S a c : Nat} (h : a + c + S ≤ 512) : S * (100 * a + 52 * c) ≤ 6604900 := by
  have h1 : S * (100 * a + 52 * c) ≤ S * (100 * (a + c)) := Nat.mul_le_mul (Nat.le_refl _) (by omega)
  have h2 := mul_514 (a := S) (b := a + c) (by omega)
  have h3 : S * (100 * (a + c)) = 100 * (S * (a + c)) := by rw [Nat.mul_left_comm]
  omega
theorem rm_e (S a c : Nat) : 4 * ((S + 1) * (1 + 18 * a + 2 * c)) + 16 * (S * c) + S * (28 * (a + c) + 1000) = S * (100 * a + 52 * c) + 1004 * S + 4 + 72 * a + 8 * c := by grind
theorem room_c {Sn AD C c cl U : Nat} (h : AD + C + Sn ≤ 512) (hc : c = 1 ∨ 2048 * c ≤ capC Sn AD C) (hl : cl = 1 ∨ 32 * cl ≤ Sn * C) (hU : U ≤ Sn * (28 * (AD + C) + 1000) + 200 * (AD + C)) : 45000 + 8192 * c + 512 * cl + U ≤ 7302250 := by
  have h1 := mul_3 (S := Sn) (a := AD) (c := C) (by omega)
  have h2 := rm_e Sn AD C
  unfold capC at hc
  generalize (Sn + 1) * (1 + 18 * AD + 2 * C) = A at hc h2
  generalize Sn * C = B at hl h2
  generalize Sn * (28 * (AD + C) + 1000) = D at hU h2
  omega
