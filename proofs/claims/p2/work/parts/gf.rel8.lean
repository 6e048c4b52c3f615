/-! changes that are no steps, with the cells as they go back -/
section
variable {cI cO : ClassId} {L L1 L2 : List Nat} {f f1 f2 : Nat → va_E} {own own1 own2 : Nat → Nat} {e0 ea n9 : Nat} {FA : Nat → Option Nat} {fe cl nw md sp : Nat → Nat} {la : Nat → Nat → Nat} {fm : Nat → Value} {SA SA1 : Nat → Option Nat} {bs dn T ft fN : Nat} {FT : Nat → Nat} {V : Nat → Nat → Nat → Int32} {VX VY : Nat → Nat → Int32} {tn rk wd tw pa pb wh of9 we kd st gb it mn cx cy : Nat → Int32}
variable {q : Nat} {fv : Value} {lo lx ly ln : Nat} {LX LY : Nat → Int32} {we9 r rx ry cap : Nat} {X Y : Nat → Int32} {Xw : va_W}
/-- the look alone was written, the list then cut: the pools between -/
theorem P_look {x2 : va_E} (hc : fcA cI L f own q (8 * q + 2) (8 * q + 3) (fe q) (la dn q) (cl q) fv (rk q) (wd q) (tw q) (pa q) (pb q) (kd q) (st q) (gb q) (it q) (nN (mn q)) (cF40 cx q) (cF40 cy q) lo lx ly ln LX LY we9 r rx ry cap X Y)
    (hp : pinD L f Xw [(fe q, .inr (1, [.int (rk q), .int (wd q), .int (tw q), .int (pa q), .int (pb q), .ref lo, .ref (la dn q), fv])), (la dn q, x2), (r, .inr (6, [.ref rx, .ref ry, .int (nI (nN (mn q))), .int (rgK (kd q).toInt)])), (rx, .inl (cI, cap, .inl X)), (ry, .inl (cI, cap, .inl Y)), (lo, .inr (6, [.ref lx, .ref ly, .int (nI ln), .int 0])), (lx, .inl (cI, cl q, .inl LX)), (ly, .inl (cI, cl q, .inl LY))] []
      [(fe q, .inr (1, [.int (rk q), .int (wd q), .int (tw q), .int (pa q), .int (pb q), .ref lo, .ref (la dn q), fv])), (la dn q, x2), (r, .inr (6, [.ref rx, .ref ry, .int (nI (nN (mn q))), .int (rgK (kd q).toInt)])), (rx, .inl (cI, cap, .inl X)), (ry, .inl (cI, cap, .inl Y)), (lo, .inr (6, [.ref lx, .ref ly, .int (nI ln), .int 0])), (lx, .inl (cI, cl q, .inl LX)), (ly, .inl (cI, cl q, .inl LY))] L1 f1) :
    kpT (fun g => g ≠ 8 * q + 2) L f own L1 f1 own ∧ ce L1 f1 own (8 * q + 2) (la dn q) x2 := by
  obtain ⟨hfr, hkp, hce, hsx, hpw⟩ := hp
  obtain ⟨⟨a1, a2, ⟨a3, a4, a5, a6⟩, ⟨a7, a8, a9, a10⟩⟩, b1, b2, b3, b4, b5⟩ := hc
  exact ⟨hkp own own _ (fun _ _ => rfl) ⟨fun _ _ => a1.2.1, fun _ h => absurd a2.2.2 h, fun _ _ => a3.2.1, fun _ _ => a4.2.1, fun _ _ => a5.2.1, fun _ _ => a7.2.1, fun _ _ => a8.2.1, fun _ _ => a9.2.1, trivial⟩, hce own 1 _ _ _ rfl a2.2.2⟩
theorem S_tear (hG : shG cI cO L f e0 FA ea n9 own fe cl la (la dn) (fun _ => 0) sp (fun _ => .null) SA bs dn dn ft ft FT V VX VY tn rk wd tw pa pb wh of9 we kd st gb it mn cx cy) (hq : q < ft) (h200 : ft ≤ 200)
    (hc : fcA cI L f own q (8 * q + 2) (8 * q + 3) (fe q) (la dn q) (cl q) fv (rk q) (wd q) (tw q) (pa q) (pb q) (kd q) (st q) (gb q) (it q) (nN (mn q)) (cF40 cx q) (cF40 cy q) lo lx ly ln LX LY we9 r rx ry cap X Y)
    (hk1 : kpT (fun g => g ≠ 8 * q + 2) L f own L1 f1 own) (hlk : ce L1 f1 own (8 * q + 2) (la dn q) (.inr (4, [.int (kd q), .int (st q), .null, .int (gb q), .int (it q), .int (nI we9)]))) (hk2 : kpT (fun g => g ≠ 8002) L1 f1 own L2 f2 own) (hL : LsA cO L2 f2 own e0 ea dn SA1) (hS : ∀ i, i < dn → SA1 i = SA i) :
    shB cI cO L2 f2 e0 FA ea dn dn dn ft (fun _ => ft) (fun _ => vC kd st gb it (upd mn q 0)) (fun _ => cx) (fun _ => cy) (upd tn q 1) rk wd tw pa pb wh of9 we kd st gb it (upd mn q 0) cx cy := by
  refine S_seal hG (fun g a e hp h => hk2 g a e hp.2.2 (hk1 g a e hp.1 h)) hq ?_ (fun p hp => ⟨rfl, if_neg hp, if_neg hp⟩) hL hS
  have t1 : ¬ (upd tn q 1 q).toInt = 0 := by rw [up_at]; decide
  exact ⟨we9, .null, hk2 _ _ _ (by omega) hlk, hc.2.2.1.2.2, fun g => (hc.2.2.2.2.2 g).1, fun _ => rfl, fun g => absurd g t1⟩
theorem S_done (hG : shG cI cO L f e0 FA ea n9 own fe cl la (la dn) (fun _ => 0) sp (fun _ => .null) SA bs dn dn ft ft FT V VX VY tn rk wd tw pa pb wh of9 we kd st gb it mn cx cy) (hq : q < ft) (h200 : ft ≤ 200) (ht : (tn q).toInt = 0)
    (hc : fcA cI L f own q (8 * q + 2) (8 * q + 3) (fe q) (la dn q) (cl q) fv (rk q) (wd q) (tw q) (pa q) (pb q) (kd q) (st q) (gb q) (it q) (nN (mn q)) (cF40 cx q) (cF40 cy q) lo lx ly ln LX LY we9 r rx ry cap X Y)
    (hk1 : kpT (fun g => g ≠ 8 * q + 2) L f own L1 f1 own) (hlk : ce L1 f1 own (8 * q + 2) (la dn q) (.inr (4, [.int (kd q), .int 1, .ref r, .int (gb q), .int (it q), .int (nI we9)]))) (hk2 : kpT (fun g => g ≠ 8002) L1 f1 own L2 f2 own) (hL : LsA cO L2 f2 own e0 ea dn SA1) (hS : ∀ i, i < dn → SA1 i = SA i) :
    shB cI cO L2 f2 e0 FA ea dn dn dn ft (fun _ => ft) (fun _ => vC kd (upd st q 1) gb it mn) (fun _ => cx) (fun _ => cy) tn rk wd tw pa pb wh of9 we kd (upd st q 1) gb it mn cx cy := by
  refine S_seal hG (fun g a e hp h => hk2 g a e hp.2.2 (hk1 g a e hp.1 h)) hq ?_ (fun p hp => ⟨if_neg hp, rfl, rfl⟩) hL hS
  have t1 : ¬ (upd st q 1 q).toInt = 0 := by rw [up_at]; decide
  obtain ⟨⟨a1, a2, a3, a4⟩, b1, b2, b3, b4, b5⟩ := hc
  refine ⟨we9, .ref r, by rw [up_at]; exact hk2 _ _ _ (by omega) hlk, b2.2.2, fun g => (b5 g).1, fun g => absurd ht g, fun _ => ⟨r, rx, ry, cap, X, Y, rfl, rwG_kp hk2 (by omega) (rwG_kp hk1 (by omega) a3), b2.1, b2.2.1, fun g => absurd g t1, b4, fun g => (b5 g).2⟩⟩
theorem cF_up {C : Nat → Int32} {p q n k : Nat} {v : Int32} (hp : p ≠ q) (hk : k < 40) (hn : n < 40) : cF40 (upd C (40 * q + n) v) p k = cF40 C p k := by
  unfold cF40 upd; rw [if_neg (by omega)]
theorem cF_at {C : Nat → Int32} {q n k : Nat} {v : Int32} : cF40 (upd C (40 * q + n) v) q k = upd (cF40 C q) n v k := by
  unfold cF40 upd
  by_cases e : k = n
  · rw [if_pos e, if_pos (by omega)]
  · rw [if_neg e, if_neg (by omega)]
theorem S_cor {px py : Int32} (hG : shG cI cO L f e0 FA ea T own fe cl la (la dn) (fun _ => 0) sp (fun _ => .null) SA bs dn T ft (FT T) FT V VX VY tn rk wd tw pa pb wh of9 we kd st gb it mn cx cy) (hD : HiD dn ft V VX VY kd st gb it tn mn cx cy) (hft : ft = FT dn) (hq : q < ft) (hs : (st q).toInt = 0) (ht : (tn q).toInt = 0) (hn : nN (mn q) < cap)
    (hc : fcA cI L f own q (8 * q + 2) (8 * q + 3) (fe q) (la dn q) (cl q) fv (rk q) (wd q) (tw q) (pa q) (pb q) (kd q) (st q) (gb q) (it q) (nN (mn q)) (cF40 cx q) (cF40 cy q) lo lx ly ln LX LY we9 r rx ry cap X Y)
    (hp : pinD L f Xw [(fe q, .inr (1, [.int (rk q), .int (wd q), .int (tw q), .int (pa q), .int (pb q), .ref lo, .ref (la dn q), fv])), (la dn q, .inr (4, [.int (kd q), .int (st q), .ref r, .int (gb q), .int (it q), .int (nI we9)])), (r, .inr (6, [.ref rx, .ref ry, .int (nI (nN (mn q) + 1)), .int (rgK (kd q).toInt)])), (rx, .inl (cI, cap, .inl (upd X (nN (mn q)) px))), (ry, .inl (cI, cap, .inl (upd Y (nN (mn q)) py))), (lo, .inr (6, [.ref lx, .ref ly, .int (nI ln), .int 0])), (lx, .inl (cI, cl q, .inl LX)), (ly, .inl (cI, cl q, .inl LY))] []
      [(fe q, .inr (1, [.int (rk q), .int (wd q), .int (tw q), .int (pa q), .int (pb q), .ref lo, .ref (la dn q), fv])), (la dn q, .inr (4, [.int (kd q), .int (st q), .ref r, .int (gb q), .int (it q), .int (nI we9)])), (r, .inr (6, [.ref rx, .ref ry, .int (nI (nN (mn q) + 1)), .int (rgK (kd q).toInt)])), (rx, .inl (cI, cap, .inl (upd X (nN (mn q)) px))), (ry, .inl (cI, cap, .inl (upd Y (nN (mn q)) py))), (lo, .inr (6, [.ref lx, .ref ly, .int (nI ln), .int 0])), (lx, .inl (cI, cl q, .inl LX)), (ly, .inl (cI, cl q, .inl LY))] L1 f1) (h40 : ∀ p, p < ft → ¬ (st p).toInt = 0 → (tn p).toInt = 0 → nN (mn p) ≤ 40) :
    shB cI cO L1 f1 e0 FA ea bs dn T ft FT V VX VY tn rk wd tw pa pb wh of9 we kd st gb it (upd mn q (nI (nN (mn q) + 1))) (upd cx (40 * q + nN (mn q)) px) (upd cy (40 * q + nN (mn q)) py) := by
  obtain ⟨hfr, hkp, hce, hsx, hpw⟩ := hp
  obtain ⟨⟨a1, a2, ⟨a3, a4, a5, a6⟩, ⟨a7, a8, a9, a10⟩⟩, b1, b2, b3, b4, b5⟩ := hc
  have hk := hkp own own (fun g => g ≠ 8 * q + 3) (fun _ _ => rfl) ⟨fun _ _ => a1.2.1, fun _ _ => a2.2.1, fun _ h => absurd a3.2.2 h, fun _ h => absurd a4.2.2 h, fun _ h => absurd a5.2.2 h, fun _ _ => a7.2.1, fun _ _ => a8.2.1, fun _ _ => a9.2.1, trivial⟩
  refine S_corner hG hD hft hk hq hs ?_ (fun p hp => ⟨if_neg hp, fun k hk2 => ⟨cF_up hp hk2 (by omega), cF_up hp hk2 (by omega)⟩⟩) h40
  rw [up_at, nN_n9 (by omega)]
  refine ⟨we9, .ref r, hce own 1 _ _ _ rfl a2.2.2, b2.2.2, fun g => (b5 g).1, fun g => absurd ht g, fun _ => ⟨r, rx, ry, cap, _, _, rfl, ⟨hce own 2 _ _ _ rfl a3.2.2, hce own 3 _ _ _ rfl a4.2.2, hce own 4 _ _ _ rfl a5.2.2, a6⟩, by omega, b2.2.1, b3, fun k hk2 => ?_, fun g => ?_⟩⟩
  · rw [cF_at, cF_at]
    unfold upd
    by_cases e : k = nN (mn q)
    · rw [if_pos e, if_pos e, if_pos e, if_pos e]; exact ⟨rfl, rfl⟩
    · rw [if_neg e, if_neg e, if_neg e, if_neg e]; exact b4 k (by omega)
  · have := (b3 hs).2; omega
end
theorem few_le {kd : Int} {n : Nat} {X Y : Nat → Int32} (h : mSm kd n X Y) : (if kd = 0 then 1 else if kd < 5 then 2 else 3) ≤ n := by
  by_cases e : kd = 0
  · rw [if_pos e]; have := h.1 e; omega
  · rw [if_neg e]
    have := (h.2 e).1
    unfold mnc at this
    by_cases e2 : kd < 5
    · rw [if_pos e2]; rw [if_neg (by omega)] at this; exact this
    · rw [if_neg e2]; rw [if_pos (by omega)] at this; exact this
theorem snd_x {kd : Int} {n : Nat} {X Y C D : Nat → Int32} {rg : Int32} (hr : rg = rgK kd) (hc : ∀ k, k < n → X k = C k ∧ Y k = D k) (h : mSm kd n C D) : (∀ i, i < edg n rg → eFr n X Y rg i (i + 1)) ∧ (¬ kd = 6 ∨ ∀ k, k < n → eRt n X Y k) := by
  have h' : mSm kd n X Y := mSm_cg (fun j hj => ⟨(hc j hj).1.symm, (hc j hj).2.symm⟩) h
  by_cases e : kd = 0
  · have hn := h.1 e
    refine ⟨fun i hi => ?_, Or.inl (by omega)⟩
    have := edg_le n rg
    unfold edg at hi
    rw [if_pos (by omega)] at hi
    omega
  · exact (snd_iff (by rw [hr]; unfold rgK; split <;> rfl) e (h'.2 e).1).mpr h'
section
variable {cI cO : ClassId} {L L1 L2 : List Nat} {f f1 f2 : Nat → va_E} {own own1 own2 : Nat → Nat} {e0 ea n9 : Nat} {FA : Nat → Option Nat} {fe cl nw md sp : Nat → Nat} {la : Nat → Nat → Nat} {fm : Nat → Value} {SA SA1 : Nat → Option Nat} {bs dn T ft fN : Nat} {FT : Nat → Nat} {V : Nat → Nat → Nat → Int32} {VX VY : Nat → Nat → Int32} {tn rk wd tw pa pb wh of9 we kd st gb it mn cx cy : Nat → Int32}
theorem F_own {L1 : List Nat} {own : Nat → Nat} {a0 a1 a2 a3 a4 a5 a6 a7 t : Nat} (n0 : a0 ∉ L1) (n1 : a1 ∉ L1) (n2 : a2 ∉ L1) (n3 : a3 ∉ L1) (n4 : a4 ∉ L1) (n5 : a5 ∉ L1) (n6 : a6 ∉ L1) (n7 : a7 ∉ L1) (q1 : a1 ≠ a0) (q2 : a2 ≠ a0) (q3 : a3 ≠ a0) (q4 : a4 ≠ a0) (q5 : a5 ≠ a0) (q6 : a6 ≠ a0) (q7 : a7 ≠ a0) (r2 : a2 ≠ a1) (r3 : a3 ≠ a1) (r4 : a4 ≠ a1) (r5 : a5 ≠ a1) (r6 : a6 ≠ a1) (r7 : a7 ≠ a1)
    (s5 : ¬ (a5 = a2 ∨ a5 = a3 ∨ a5 = a4)) (s6 : ¬ (a6 = a2 ∨ a6 = a3 ∨ a6 = a4)) (s7 : ¬ (a7 = a2 ∨ a7 = a3 ∨ a7 = a4)) :
    ∃ o : Nat → Nat, (∀ a ∈ L1, o a = own a) ∧ o a0 = 8 * t ∧ o a1 = 8 * t + 2 ∧ (o a2 = 8 * t + 3 ∧ o a3 = 8 * t + 3 ∧ o a4 = 8 * t + 3) ∧ (o a5 = 8 * t + 1 ∧ o a6 = 8 * t + 1 ∧ o a7 = 8 * t + 1) := by
  refine ⟨fun b => if b = a0 then 8 * t else if b = a1 then 8 * t + 2 else if b = a2 ∨ b = a3 ∨ b = a4 then 8 * t + 3 else if b = a5 ∨ b = a6 ∨ b = a7 then 8 * t + 1 else own b, fun a ha => ?_, if_pos rfl, (if_neg q1).trans (if_pos rfl), ⟨(if_neg q2).trans ((if_neg r2).trans (if_pos (Or.inl rfl))), (if_neg q3).trans ((if_neg r3).trans (if_pos (Or.inr (Or.inl rfl)))), (if_neg q4).trans ((if_neg r4).trans (if_pos (Or.inr (Or.inr rfl))))⟩,
    ⟨(if_neg q5).trans ((if_neg r5).trans ((if_neg s5).trans (if_pos (Or.inl rfl)))), (if_neg q6).trans ((if_neg r6).trans ((if_neg s6).trans (if_pos (Or.inr (Or.inl rfl))))), (if_neg q7).trans ((if_neg r7).trans ((if_neg s7).trans (if_pos (Or.inr (Or.inr rfl)))))⟩⟩
  have m : ∀ x, x ∉ L1 → a ≠ x := fun x hx e => hx (by rw [← e]; exact ha)
  exact (if_neg (m _ n0)).trans ((if_neg (m _ n1)).trans ((if_neg (fun h => h.elim (m _ n2) (fun h => h.elim (m _ n3) (m _ n4)))).trans (if_neg (fun h => h.elim (m _ n5) (fun h => h.elim (m _ n6) (m _ n7))))))
theorem S_fea {Xw : va_W} {fq nq lo lx ly r rx ry c rm : Nat} {k1 k2 k3 k4 : Int32} (hG : shG cI cO L f e0 FA ea n9 own fe cl la (la dn) (fun _ => 0) sp (fun _ => .null) SA bs dn dn ft ft FT V VX VY tn rk wd tw pa pb wh of9 we kd st gb it mn cx cy) (h200 : ft < 200) (hk6 : kpT (fun g => g ≠ 8002) L f own L1 f1 own) (hL6 : LsA cO L1 f1 own e0 ea dn SA1) (hS : ∀ i, i < dn → SA1 i = SA i)
    (hp : pinD L1 f1 Xw [] [(fq, .inr (1, [.int k2, .int k3, .int k4, .int (-1), .int (-1), .ref lo, .ref nq, .null])), (nq, .inr (4, [.int k1, .int 0, .ref r, .int 0, .int (-1), .int 0])), (r, .inr (6, [.ref rx, .ref ry, .int (nI 0), .int (rgK k1.toInt)])), (rx, .inl (cI, rm, .inl (fun _ => 0))), (ry, .inl (cI, rm, .inl (fun _ => 0))), (lo, .inr (6, [.ref lx, .ref ly, .int (nI 0), .int 0])), (lx, .inl (cI, c, .inl (fun _ => 0))), (ly, .inl (cI, c, .inl (fun _ => 0)))] [(fq, .inr (1, [.int k2, .int k3, .int k4, .int (-1), .int (-1), .ref lo, .ref nq, .null])), (nq, .inr (4, [.int k1, .int 0, .ref r, .int 0, .int (-1), .int 0])), (r, .inr (6, [.ref rx, .ref ry, .int (nI 0), .int (rgK k1.toInt)])), (rx, .inl (cI, rm, .inl (fun _ => 0))), (ry, .inl (cI, rm, .inl (fun _ => 0))), (lo, .inr (6, [.ref lx, .ref ly, .int (nI 0), .int 0])), (lx, .inl (cI, c, .inl (fun _ => 0))), (ly, .inl (cI, c, .inl (fun _ => 0)))] L2 f2) (hc : (1 ≤ k1.toInt ∧ k1.toInt ≤ 5 ∧ c = 40) ∨ (¬ (1 ≤ k1.toInt ∧ k1.toInt ≤ 5) ∧ c = 1)) (hrm : rm = (if k1.toInt = 0 then 1 else 40)) :
    shB cI cO L2 f2 e0 (va_up FA ft (some fq)) ea dn dn dn (ft + 1) (fun _ => ft + 1) (fun _ => vC (upd kd ft k1) (upd st ft 0) (upd gb ft 0) (upd it ft (-1)) (upd mn ft 0)) (fun _ => cx) (fun _ => cy) (upd tn ft 0) (upd rk ft k2) (upd wd ft k3) (upd tw ft k4) (upd pa ft (-1)) (upd pb ft (-1)) wh of9 we (upd kd ft k1) (upd st ft 0) (upd gb ft 0) (upd it ft (-1)) (upd mn ft 0) cx cy := by
  have hcb : 0 ≤ c ∧ 1 ≤ c ∧ c ≤ 40 := by omega
  have hc40 : (1 ≤ k1.toInt ∧ k1.toInt ≤ 5) → c = 40 := by omega
  have hrm4 : rm ≤ 40 := by rw [hrm]; split <;> omega
  obtain ⟨hfr, hkp, hce, hsx, hpw⟩ := hp
  obtain ⟨o, how, of0, of1, ⟨of2, of3, of4⟩, of5, of6, of7⟩ := F_own (own := own) (t := ft) (hfr _ (List.mem_of_getElem? (i := 0) rfl)) (hfr _ (List.mem_of_getElem? (i := 1) rfl)) (hfr _ (List.mem_of_getElem? (i := 2) rfl)) (hfr _ (List.mem_of_getElem? (i := 3) rfl)) (hfr _ (List.mem_of_getElem? (i := 4) rfl)) (hfr _ (List.mem_of_getElem? (i := 5) rfl)) (hfr _ (List.mem_of_getElem? (i := 6) rfl)) (hfr _ (List.mem_of_getElem? (i := 7) rfl)) (pwN hpw (i := 1) (j := 0) rfl rfl (by decide)) (pwN hpw (i := 2) (j := 0) rfl rfl (by decide)) (pwN hpw (i := 3) (j := 0) rfl rfl (by decide)) (pwN hpw (i := 4) (j := 0) rfl rfl (by decide)) (pwN hpw (i := 5) (j := 0) rfl rfl (by decide)) (pwN hpw (i := 6) (j := 0) rfl rfl (by decide)) (pwN hpw (i := 7) (j := 0) rfl rfl (by decide)) (pwN hpw (i := 2) (j := 1) rfl rfl (by decide)) (pwN hpw (i := 3) (j := 1) rfl rfl (by decide)) (pwN hpw (i := 4) (j := 1) rfl rfl (by decide)) (pwN hpw (i := 5) (j := 1) rfl rfl (by decide)) (pwN hpw (i := 6) (j := 1) rfl rfl (by decide)) (pwN hpw (i := 7) (j := 1) rfl rfl (by decide)) (fun h => h.elim (pwN hpw (i := 5) (j := 2) rfl rfl (by decide)) (fun h => h.elim (pwN hpw (i := 5) (j := 3) rfl rfl (by decide)) (pwN hpw (i := 5) (j := 4) rfl rfl (by decide)))) (fun h => h.elim (pwN hpw (i := 6) (j := 2) rfl rfl (by decide)) (fun h => h.elim (pwN hpw (i := 6) (j := 3) rfl rfl (by decide)) (pwN hpw (i := 6) (j := 4) rfl rfl (by decide)))) (fun h => h.elim (pwN hpw (i := 7) (j := 2) rfl rfl (by decide)) (fun h => h.elim (pwN hpw (i := 7) (j := 3) rfl rfl (by decide)) (pwN hpw (i := 7) (j := 4) rfl rfl (by decide))))
  have x34 := pwN hpw (i := 3) (j := 4) rfl rfl (by decide)
  have x67 := pwN hpw (i := 6) (j := 7) rfl rfl (by decide)
  have hk2 := hkp own o (fun _ => True) how trivial
  have g0 := hce o 0 _ _ _ rfl of0
  have g1 := hce o 1 _ _ _ rfl of1
  have g2 := hce o 2 _ _ _ rfl of2
  have g3 := hce o 3 _ _ _ rfl of3
  have g4 := hce o 4 _ _ _ rfl of4
  have g5 := hce o 5 _ _ _ rfl of5
  have g6 := hce o 6 _ _ _ rfl of6
  have g7 := hce o 7 _ _ _ rfl of7
  clear hfr hkp hce hsx hpw
  have nN0 : nN (0 : Int32) = 0 := by decide
  refine S_feature (fq := fq) (nq := nq) (c := c) hG (fun g a e hp h => hk2 g a e trivial (hk6 g a e hp h)) h200 ?_ ?_ (fun p hp => ⟨if_neg hp, if_neg hp, if_neg hp, if_neg hp, if_neg hp, if_neg hp, if_neg hp, if_neg hp, if_neg hp, if_neg hp, if_neg hp⟩) (LsA_kp hk2 ⟨trivial, trivial⟩ hL6) hS
  · rw [up_at, up_at, up_at, up_at, up_at]
    exact ⟨lo, lx, ly, 0, _, _, g0, ⟨g5, g6, g7, x67⟩, hcb⟩
  · rw [up_at, up_at, up_at, up_at, up_at, up_at, nN0]
    exact ⟨0, .ref r, g1, Nat.zero_le _, hc40, fun g => absurd rfl g, fun _ => ⟨r, rx, ry, rm, _, _, rfl, ⟨g2, g3, g4, x34⟩, Nat.zero_le _, hrm4, fun _ => ⟨hrm, rfl⟩, fun k hk => absurd hk (Nat.not_lt_zero _), fun _ => Nat.zero_le _⟩⟩
end
