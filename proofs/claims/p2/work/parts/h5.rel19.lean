/-! two features leave in one step -/
theorem t8_ne {p q : Nat} (h : p ≠ q) : 8 * p ≠ 8 * q ∧ 8 * p + 1 ≠ 8 * q ∧ 8 * p + 2 ≠ 8 * q ∧ 8 * p + 3 ≠ 8 * q := by omega
section
variable {cI cO : ClassId} {L L1 : List Nat} {f f1 : Nat → va_E} {own own1 : Nat → Nat} {e0 ea n9 : Nat} {FA : Nat → Option Nat} {fe cl nw md sp : Nat → Nat} {la : Nat → Nat → Nat} {fm : Nat → Value} {SA : Nat → Option Nat} {bs dn T ft fN : Nat} {FT : Nat → Nat} {V : Nat → Nat → Nat → Int32} {VX VY : Nat → Nat → Int32} {tn rk wd tw pa pb wh of9 we kd st gb it mn cx cy kd1 st1 gb1 it1 stm gbm itm : Nat → Int32}
theorem M_lv {q nq : Nat} {fv : Value} {lo5 lx5 ly5 ln5 : Nat} {LX5 LY5 : Nat → Int32} {we5 r5 rx5 ry5 cap5 : Nat} {X5 Y5 : Nat → Int32} {kq5 sq5 gq5 iq5 : Int32}
    (hG : shG cI cO L f e0 FA ea n9 own fe cl la nw md sp fm SA bs dn dn ft ft FT V VX VY tn rk wd tw pa pb wh of9 we kd st gb it mn cx cy) (hM : mdA dn ft FT la nw md fm V kd st gb it) (hm : md q = 0) (hq : q < ft) (hqd : q < FT dn) (hs : ¬ (st q).toInt = 0) (hs1 : ¬ (st1 q).toInt = 0) (ht : (tn q).toInt = 0)
    (hc : fcA cI L f own q (8 * q + 2) (8 * q + 3) (fe q) (nw q) (cl q) fv (rk q) (wd q) (tw q) (pa q) (pb q) (kd q) (st q) (gb q) (it q) (nN (mn q)) (cF40 cx q) (cF40 cy q) lo5 lx5 ly5 ln5 LX5 LY5 we5 r5 rx5 ry5 cap5 X5 Y5) (hk : kpT (fun g => g ≠ 8 * q) L f own L1 f1 own1)
    (h1 : ce L1 f1 own1 (8 * q) (fe q) (.inr (1, [.int (rk q), .int (wd q), .int (tw q), .int (pa q), .int (pb q), .ref lo5, .ref nq, .ref (nw q)]))) (h2 : ce L1 f1 own1 (8 * q + 4) nq (.inr (4, [.int kq5, .int sq5, .ref r5, .int gq5, .int iq5, .int (nI we5)])))
    (ho : othS q kd st gb it mn cx cy kd1 st1 gb1 it1 mn cx cy) (hk5 : kd1 q = kq5) (hst5 : st1 q = sq5) (hgb5 : gb1 q = gq5) (hit5 : it1 q = iq5) (hkr5 : rgK kq5.toInt = rgK (kd q).toInt) (hkb5 : (1 ≤ kq5.toInt ∧ kq5.toInt ≤ 5) → (1 ≤ (kd q).toInt ∧ (kd q).toInt ≤ 5)) :
    shG cI cO L1 f1 e0 FA ea n9 own1 fe cl la (upN nw q nq) (upN md q 2) sp (upN fm q (.ref (la dn q))) SA bs dn dn ft ft FT V VX VY tn rk wd tw pa pb wh of9 we kd1 st1 gb1 it1 mn cx cy ∧ mdA dn ft FT la (upN nw q nq) (upN md q 2) (upN fm q (.ref (la dn q))) V kd1 st1 gb1 it1 := by
  obtain ⟨⟨a1, a2, a3, a7⟩, b1, b2, b3, b4, b5⟩ := hc
  have hla : nw q = la dn q := ((hM q hq).1 hm).2.1
  have hV := ((hM q hq).1 hm).2.2 hqd
  have hfe : feG cI L1 f1 own1 q (fe q) nq (cl q) (.ref (la dn q)) (rk q) (wd q) (tw q) (pa q) (pb q) := ⟨lo5, lx5, ly5, ln5, LX5, LY5, by rw [← hla]; exact h1, rwG_kp hk (show 8 * q + 1 ≠ 8 * q by omega) a7, b1⟩
  have hlk : lkG cI L1 f1 own1 (glM 2 q) (grM 2 q) nq (cl q) (kd1 q) (st1 q) (gb1 q) (it1 q) (tn q) (nN (mn q)) (cF40 cx q) (cF40 cy q) := by
    have hs2 : ¬ sq5.toInt = 0 := by rw [← hst5]; exact hs1
    rw [hk5, hst5, hgb5, hit5]
    refine ⟨we5, .ref r5, h2, b2.2.2, fun g => (b5 (hkb5 g)).1, fun g => absurd ht g, fun _ => ⟨r5, rx5, ry5, cap5, X5, Y5, rfl, ?_, b2.1, b2.2.1, fun g => absurd g hs2, b4, fun g => (b5 (hkb5 g)).2⟩⟩
    rw [hkr5]; exact rwG_kp hk (show 8 * q + 3 ≠ 8 * q by omega) a3
  exact M_new (m := 2) (nq := nq) hG hM (kpT_wk hk (fun g hg => hg.1)) hfe hlk ho (by decide) hq hqd (by rw [hV.2.1]; exact hs) hs1
theorem lv_mid {q n1 a : Nat} {E0 E N : va_E} (hn : n1 ∉ L) (h : ce L f own (8 * q) a E0) : ∃ (Lm : List Nat) (gm : Nat → va_E), kpT (fun g => g ≠ 8 * q) L f own Lm gm (ow own n1 (8 * q + 4)) ∧ ce Lm gm (ow own n1 (8 * q + 4)) (8 * q) a E ∧ ce Lm gm (ow own n1 (8 * q + 4)) (8 * q + 4) n1 N ∧ ∀ b, b ∈ Lm → b ≠ n1 → b ≠ a → b ∈ L ∧ ¬ own b = 8 * q ∧ gm b = f b := by
  have ha : a ≠ n1 := fun e => hn (by rw [← e]; exact h.1)
  refine ⟨n1 :: L.filter (fun b => decide (¬ own b = 8 * q) || decide (b = a)), upN (upN f a E) n1 N, fun g b e hg hb => ?_, ⟨List.mem_cons_of_mem _ (List.mem_filter.mpr ⟨h.1, by simp⟩), by rw [upN_o ha, upN_at], by rw [ow_o ha]; exact h.2.2⟩, ⟨List.mem_cons_self .., upN_at, ow_at⟩, fun b hb h1 h2 => ?_⟩
  · have hb1 : b ≠ n1 := fun e => hn (by rw [← e]; exact hb.1)
    have hb0 : ¬ own b = 8 * q := fun e => hg (by rw [← hb.2.2]; exact e)
    have hb2 : b ≠ a := fun e => hb0 (by rw [e]; exact h.2.2)
    exact ⟨List.mem_cons_of_mem _ (List.mem_filter.mpr ⟨hb.1, by simp [hb0]⟩), by rw [upN_o hb1, upN_o hb2]; exact hb.2.1, by rw [ow_o hb1]; exact hb.2.2⟩
  · obtain ⟨m1, m2⟩ := List.mem_filter.mp ((List.mem_cons.mp hb).resolve_left h1)
    exact ⟨m1, by simpa [h2] using m2, by rw [upN_o h1, upN_o h2]⟩
set_option maxHeartbeats 4000000 in
theorem M_lv2 {q p n1 n2 : Nat} {fv fw : Value} {Xw : va_W} {lo5 lx5 ly5 ln5 : Nat} {LX5 LY5 : Nat → Int32} {we5 r5 rx5 ry5 cap5 : Nat} {X5 Y5 : Nat → Int32} {kq5 sq5 gq5 iq5 : Int32} {lo6 lx6 ly6 ln6 : Nat} {LX6 LY6 : Nat → Int32} {we6 r6 rx6 ry6 cap6 : Nat} {X6 Y6 : Nat → Int32} {kq6 sq6 gq6 iq6 : Int32}
    (hG : shG cI cO L f e0 FA ea n9 own fe cl la nw md sp fm SA bs dn dn ft ft FT V VX VY tn rk wd tw pa pb wh of9 we kd st gb it mn cx cy) (hM : mdA dn ft FT la nw md fm V kd st gb it) (hpq : p ≠ q) (hm5 : md q = 0) (hm6 : md p = 0) (hq : q < ft) (hp : p < ft) (hqd : q < FT dn) (hpd : p < FT dn) (hs5 : ¬ (st q).toInt = 0) (hs6 : ¬ (st p).toInt = 0) (hs15 : ¬ (stm q).toInt = 0) (hs16 : ¬ (st1 p).toInt = 0) (ht5 : (tn q).toInt = 0) (ht6 : (tn p).toInt = 0)
    (hc5 : fcA cI L f own q (8 * q + 2) (8 * q + 3) (fe q) (nw q) (cl q) fv (rk q) (wd q) (tw q) (pa q) (pb q) (kd q) (st q) (gb q) (it q) (nN (mn q)) (cF40 cx q) (cF40 cy q) lo5 lx5 ly5 ln5 LX5 LY5 we5 r5 rx5 ry5 cap5 X5 Y5)
    (hc6 : fcA cI L f own p (8 * p + 2) (8 * p + 3) (fe p) (nw p) (cl p) fw (rk p) (wd p) (tw p) (pa p) (pb p) (kd p) (st p) (gb p) (it p) (nN (mn p)) (cF40 cx p) (cF40 cy p) lo6 lx6 ly6 ln6 LX6 LY6 we6 r6 rx6 ry6 cap6 X6 Y6)
    (hpin : pinD L f Xw [(fe q, .inr (1, [.int (rk q), .int (wd q), .int (tw q), .int (pa q), .int (pb q), .ref lo5, .ref n1, .ref (nw q)])), (nw q, .inr (4, [.int (kd q), .int (st q), .ref r5, .int (gb q), .int (it q), .int (nI we5)])), (r5, .inr (6, [.ref rx5, .ref ry5, .int (nI (nN (mn q))), .int (rgK (kd q).toInt)])), (rx5, .inl (cI, cap5, .inl X5)), (ry5, .inl (cI, cap5, .inl Y5)), (lo5, .inr (6, [.ref lx5, .ref ly5, .int (nI ln5), .int 0])), (lx5, .inl (cI, cl q, .inl LX5)), (ly5, .inl (cI, cl q, .inl LY5)), (fe p, .inr (1, [.int (rk p), .int (wd p), .int (tw p), .int (pa p), .int (pb p), .ref lo6, .ref n2, .ref (nw p)])), (nw p, .inr (4, [.int (kd p), .int (st p), .ref r6, .int (gb p), .int (it p), .int (nI we6)])), (r6, .inr (6, [.ref rx6, .ref ry6, .int (nI (nN (mn p))), .int (rgK (kd p).toInt)])), (rx6, .inl (cI, cap6, .inl X6)), (ry6, .inl (cI, cap6, .inl Y6)), (lo6, .inr (6, [.ref lx6, .ref ly6, .int (nI ln6), .int 0])), (lx6, .inl (cI, cl p, .inl LX6)), (ly6, .inl (cI, cl p, .inl LY6))] [(n1, .inr (4, [.int kq5, .int sq5, .ref r5, .int gq5, .int iq5, .int (nI we5)])), (n2, .inr (4, [.int kq6, .int sq6, .ref r6, .int gq6, .int iq6, .int (nI we6)]))] [(fe q, .inr (1, [.int (rk q), .int (wd q), .int (tw q), .int (pa q), .int (pb q), .ref lo5, .ref n1, .ref (nw q)])), (nw q, .inr (4, [.int (kd q), .int (st q), .ref r5, .int (gb q), .int (it q), .int (nI we5)])), (r5, .inr (6, [.ref rx5, .ref ry5, .int (nI (nN (mn q))), .int (rgK (kd q).toInt)])), (rx5, .inl (cI, cap5, .inl X5)), (ry5, .inl (cI, cap5, .inl Y5)), (lo5, .inr (6, [.ref lx5, .ref ly5, .int (nI ln5), .int 0])), (lx5, .inl (cI, cl q, .inl LX5)), (ly5, .inl (cI, cl q, .inl LY5)), (fe p, .inr (1, [.int (rk p), .int (wd p), .int (tw p), .int (pa p), .int (pb p), .ref lo6, .ref n2, .ref (nw p)])), (nw p, .inr (4, [.int (kd p), .int (st p), .ref r6, .int (gb p), .int (it p), .int (nI we6)])), (r6, .inr (6, [.ref rx6, .ref ry6, .int (nI (nN (mn p))), .int (rgK (kd p).toInt)])), (rx6, .inl (cI, cap6, .inl X6)), (ry6, .inl (cI, cap6, .inl Y6)), (lo6, .inr (6, [.ref lx6, .ref ly6, .int (nI ln6), .int 0])), (lx6, .inl (cI, cl p, .inl LX6)), (ly6, .inl (cI, cl p, .inl LY6)), (n1, .inr (4, [.int kq5, .int sq5, .ref r5, .int gq5, .int iq5, .int (nI we5)])), (n2, .inr (4, [.int kq6, .int sq6, .ref r6, .int gq6, .int iq6, .int (nI we6)]))] L1 f1)
    (ho5 : othS q kd st gb it mn cx cy kd stm gbm itm mn cx cy) (hk5 : kd q = kq5) (hst5 : stm q = sq5) (hgb5 : gbm q = gq5) (hit5 : itm q = iq5) (hkr5 : rgK kq5.toInt = rgK (kd q).toInt) (hkb5 : (1 ≤ kq5.toInt ∧ kq5.toInt ≤ 5) → (1 ≤ (kd q).toInt ∧ (kd q).toInt ≤ 5))
    (ho6 : othS p kd stm gbm itm mn cx cy kd st1 gb1 it1 mn cx cy) (hk6 : kd p = kq6) (hst6 : st1 p = sq6) (hgb6 : gb1 p = gq6) (hit6 : it1 p = iq6) (hkr6 : rgK kq6.toInt = rgK (kd p).toInt) (hkb6 : (1 ≤ kq6.toInt ∧ kq6.toInt ≤ 5) → (1 ≤ (kd p).toInt ∧ (kd p).toInt ≤ 5)) :
    ∃ (own1 nw1 md1 : Nat → Nat) (fm1 : Nat → Value), shG cI cO L1 f1 e0 FA ea n9 own1 fe cl la nw1 md1 sp fm1 SA bs dn dn ft ft FT V VX VY tn rk wd tw pa pb wh of9 we kd st1 gb1 it1 mn cx cy ∧ mdA dn ft FT la nw1 md1 fm1 V kd st1 gb1 it1 ∧ md1 = upN (upN md q 2) p 2 := by
  obtain ⟨hfr, hkp, hce, hsx, hpw⟩ := hpin
  have hn1 : n1 ∉ L := hfr _ (List.mem_cons_self ..)
  have hn2 : n2 ∉ L := hfr _ (List.mem_cons_of_mem _ (List.mem_cons_self ..))
  have h12 : n1 ≠ n2 := pwN hpw (i := 16) (j := 17) rfl rfl (by decide)
  have a1 := hc5.1.1
  have c1 := hc6.1.1
  obtain ⟨Lm, gm, k1, k2, k3, k4⟩ := lv_mid (E := .inr (1, [.int (rk q), .int (wd q), .int (tw q), .int (pa q), .int (pb q), .ref lo5, .ref n1, .ref (nw q)])) (N := .inr (4, [.int kq5, .int sq5, .ref r5, .int gq5, .int iq5, .int (nI we5)])) hn1 a1
  obtain ⟨hG2, hM2⟩ := M_lv (q := q) (nq := n1) (kd1 := kd) hG hM hm5 hq hqd hs5 hs15 ht5 hc5 k1 k2 k3 ho5 hk5 hst5 hgb5 hit5 hkr5 hkb5
  have hoo : ∀ a, a ∈ L → ow (ow own n1 (8 * q + 4)) n2 (8 * p + 4) a = own a := ow_L (ow_L (fun _ _ => rfl) hn1) hn2
  have hof : ow (ow own n1 (8 * q + 4)) n2 (8 * p + 4) n1 = 8 * q + 4 := by rw [ow_o h12]; exact ow_at
  obtain ⟨⟨_, a2, ⟨a3, a4, a5, a6⟩, ⟨a7, a8, a9, a10⟩⟩, _⟩ := hc5
  have hc6' := hc6
  obtain ⟨⟨_, c2, ⟨c3, c4, c5, c6⟩, ⟨c7, c8, c9, c10⟩⟩, crest⟩ := hc6
  have hkA := hkp own (ow (ow own n1 (8 * q + 4)) n2 (8 * p + 4)) (fun g => g ≠ 8 * q ∧ g ≠ 8 * p) hoo ⟨fun _ h => absurd a1.2.2 h.1, fun _ _ => a2.2.1, fun _ _ => a3.2.1, fun _ _ => a4.2.1, fun _ _ => a5.2.1, fun _ _ => a7.2.1, fun _ _ => a8.2.1, fun _ _ => a9.2.1, fun _ h => absurd c1.2.2 h.2, fun _ _ => c2.2.1, fun _ _ => c3.2.1, fun _ _ => c4.2.1, fun _ _ => c5.2.1, fun _ _ => c7.2.1, fun _ _ => c8.2.1, fun _ _ => c9.2.1, trivial⟩
  have hk2 : kpT (fun g => g ≠ 8 * p) Lm gm (ow own n1 (8 * q + 4)) L1 f1 (ow (ow own n1 (8 * q + 4)) n2 (8 * p + 4)) := by
    intro g a e hg ha
    by_cases e1 : a = n1
    · rw [e1] at ha ⊢
      have he9 := k3.2.1.symm.trans ha.2.1
      have hg9 := k3.2.2.symm.trans ha.2.2
      subst he9
      subst hg9
      exact hce _ 16 _ _ _ rfl hof
    · by_cases e2 : a = fe q
      · rw [e2] at ha ⊢
        have he9 := k2.2.1.symm.trans ha.2.1
        have hg9 := k2.2.2.symm.trans ha.2.2
        subst he9
        subst hg9
        exact hce _ 0 _ _ _ rfl (by rw [hoo _ a1.1]; exact a1.2.2)
      · obtain ⟨m1, m2, m3⟩ := k4 a ha.1 e1 e2
        have ho : own a = g := by have h9 := ha.2.2; rw [ow_o e1] at h9; exact h9
        exact hkA g a e ⟨by rw [← ho]; exact m2, hg⟩ ⟨m1, by rw [← m3]; exact ha.2.1, ho⟩
  have hnwp : upN nw q n1 p = nw p := upN_o hpq
  obtain ⟨o1, o2, o3, o4, _⟩ := ho5 p hpq
  have hc7 : fcA cI Lm gm (ow own n1 (8 * q + 4)) p (8 * p + 2) (8 * p + 3) (fe p) (upN nw q n1 p) (cl p) fw (rk p) (wd p) (tw p) (pa p) (pb p) (kd p) (stm p) (gbm p) (itm p) (nN (mn p)) (cF40 cx p) (cF40 cy p) lo6 lx6 ly6 ln6 LX6 LY6 we6 r6 rx6 ry6 cap6 X6 Y6 := by
    rw [hnwp, o2, o3, o4]
    exact ⟨⟨k1 _ _ _ (t8_ne hpq).1 c1, k1 _ _ _ (t8_ne hpq).2.2.1 c2, rwG_kp k1 (t8_ne hpq).2.2.2 ⟨c3, c4, c5, c6⟩, rwG_kp k1 (t8_ne hpq).2.1 ⟨c7, c8, c9, c10⟩⟩, crest⟩
  obtain ⟨hG3, hM3⟩ := M_lv (q := p) (nq := n2) (kd1 := kd) hG2 hM2 (by rw [upN_o hpq]; exact hm6) hp hpd (by rw [o2]; exact hs6) hs16 ht6 hc7 hk2 (by rw [hnwp]; exact hce _ 8 _ _ _ rfl (by rw [hoo _ c1.1]; exact c1.2.2)) (hce _ 17 _ _ _ rfl ow_at) ho6 hk6 hst6 hgb6 hit6 hkr6 hkb6
  exact ⟨_, _, _, _, hG3, hM3, rfl⟩
end
