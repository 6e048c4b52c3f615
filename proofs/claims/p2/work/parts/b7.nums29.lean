/-! RUN comes to its end -/
theorem smP_o {P : Nat → Prop} {c d : Nat → Nat} (n : Nat) (h : ∀ j, j < n → d j = c j) : smP P d n = smP P c n := by
  induction n with
  | zero => rfl
  | succ n ih =>
    have h1 := ih (fun j hj => h j (by omega))
    by_cases q : P n
    · rw [smP_y q, smP_y q, h1, h n (by omega)]
    · rw [smP_n q, smP_n q, h1]
theorem smP_u {P : Nat → Prop} {c d : Nat → Nat} {g m : Nat} : ∀ n, g < n → P g → (∀ j, j ≠ g → d j = c j) → d g + m = c g → smP P d n + m = smP P c n := by
  intro n
  induction n with
  | zero => intro h; omega
  | succ n ih =>
    intro hg hp ho hm
    rcases Nat.lt_or_ge g n with q | q
    · have h1 := ih q hp ho hm
      by_cases w : P n
      · rw [smP_y w, smP_y w, ho n (by omega)]; omega
      · rw [smP_n w, smP_n w]; omega
    · obtain rfl : g = n := by omega
      rw [smP_y hp, smP_y hp, smP_o g (fun j hj => ho j (by omega))]; omega
theorem rn1_ex {ft : Nat} {st tn kd : Nat → Int32} {L g : Nat} {mn cx cy : Nat → Int32} (hg : g < ft) (h : allI ft st tn kd mn cx cy) : ∃ m mn1 cx1 cy1, rn1 ft st tn kd L g mn cx cy m mn1 cx1 cy1 ∧ allI ft st tn kd mn1 cx1 cy1 ∧ smP (lvF ft st tn) (fun q => nN (mn1 q)) ft + m = smP (lvF ft st tn) (fun q => nN (mn q)) ft := by
  by_cases q : lvF ft st tn g ∧ ¬ (kd g).toInt = 0 ∧ ¬ (kd g).toInt = 6
  · obtain ⟨m, mn1, cx1, cy1, n1, hp⟩ := plN_ex (L := L) _ _ _ _ (allI_p h q.1)
    have he := plN_end m _ _ _ _ _ _ _ n1 (allI_p h q.1) hp
    refine ⟨m, mn1, cx1, cy1, ⟨fun _ => ⟨n1, hp⟩, fun w => absurd q w⟩, (allI_s h q.1 hp).1, smP_u ft hg q.1 (fun j hj => by show nN (mn1 j) = nN (mn j); rw [he.2.2.1 j hj]) ?_⟩
    show nN (mn1 g) + m = nN (mn g)
    rw [he.1.1, nN_nI (by have := he.1.2.1; omega)]; exact he.2.1
  · exact ⟨0, mn, cx, cy, ⟨fun w => absurd w q, fun _ => ⟨rfl, rfl, rfl, rfl⟩⟩, h, rfl⟩
theorem rnP_ex {ft : Nat} {st tn kd : Nat → Int32} {L : Nat} : ∀ (j : Nat) (mn cx cy : Nat → Int32), j ≤ ft → allI ft st tn kd mn cx cy → ∃ t mn1 cx1 cy1, rnP ft st tn kd L j mn cx cy t mn1 cx1 cy1 ∧ allI ft st tn kd mn1 cx1 cy1 ∧ smP (lvF ft st tn) (fun q => nN (mn1 q)) ft + t = smP (lvF ft st tn) (fun q => nN (mn q)) ft := by
  intro j
  induction j with
  | zero => intro mn cx cy _ h; exact ⟨0, mn, cx, cy, ⟨rfl, rfl, rfl, rfl⟩, h, rfl⟩
  | succ j ih =>
    intro mn cx cy hj h
    obtain ⟨m, mn2, cx2, cy2, h1, h2, h3⟩ := rn1_ex (L := L) (g := ft - (j + 1)) (by omega) h
    obtain ⟨t, mn1, cx1, cy1, g1, g2, g3⟩ := ih mn2 cx2 cy2 (by omega) h2
    exact ⟨m + t, mn1, cx1, cy1, ⟨m, mn2, cx2, cy2, t, h1, g1, rfl⟩, g2, by omega⟩
theorem rnA_ex {ft : Nat} {st tn kd : Nat → Int32} {L : Nat} : ∀ (s : Nat) (mn cx cy : Nat → Int32), allI ft st tn kd mn cx cy → smP (lvF ft st tn) (fun q => nN (mn q)) ft ≤ s → ∃ p t mn1 cx1 cy1, rnA ft st tn kd L p mn cx cy t mn1 cx1 cy1 ∧ allI ft st tn kd mn1 cx1 cy1 ∧ smP (lvF ft st tn) (fun q => nN (mn1 q)) ft + t = smP (lvF ft st tn) (fun q => nN (mn q)) ft := by
  intro s
  induction s using Nat.strongRecOn with
  | ind s ih =>
    intro mn cx cy h hs
    obtain ⟨t, mn2, cx2, cy2, h1, h2, h3⟩ := rnP_ex (L := L) ft mn cx cy (Nat.le_refl _) h
    rcases Nat.eq_zero_or_pos t with q | q
    · exact ⟨1, 0, mn2, cx2, cy2, ⟨t, mn2, cx2, cy2, h1, Or.inl ⟨q, rfl, rfl, rfl, rfl⟩⟩, h2, by omega⟩
    · obtain ⟨p, t3, mn1, cx1, cy1, g1, g2, g3⟩ := ih (s - t) (by omega) mn2 cx2 cy2 h2 (by omega)
      exact ⟨p + 1, t + t3, mn1, cx1, cy1, ⟨t, mn2, cx2, cy2, h1, Or.inr ⟨q, t3, g1, rfl⟩⟩, g2, by omega⟩
