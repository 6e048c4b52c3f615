/-! cells out of a pool, and back -/
theorem vaP_mem {D : va_G} {cl : List vw_C} {ws : va_W} {H : Heap} : va_P D cl ws H ↔ ∀ q ∈ ws, va_at D cl q H :=
  ⟨fun h q hq => by obtain ⟨k, hk⟩ := List.getElem?_of_mem hq; exact h k q hk, fun h k q hk => h q (List.mem_of_getElem? hk)⟩
theorem vaD_mem {A : Nat → Prop} {ws : va_W} : va_D A ws ↔ ws.Pairwise (fun p q => p.1 ≠ q.1) ∧ ∀ q ∈ ws, A q.1 := by
  constructor
  · intro h
    refine ⟨List.pairwise_iff_getElem.mpr fun i j hi hj hij e => ?_, fun q hq => ?_⟩
    · have := h.1 i j _ _ (List.getElem?_eq_getElem hi) (List.getElem?_eq_getElem hj) e; omega
    · obtain ⟨k, hk⟩ := List.getElem?_of_mem hq; exact h.2 k q hk
  · intro h
    refine ⟨fun i j p q hp hq e => ?_, fun k q hk => h.2 q (List.mem_of_getElem? hk)⟩
    obtain ⟨hi, ep⟩ := List.getElem?_eq_some_iff.mp hp
    obtain ⟨hj, eq⟩ := List.getElem?_eq_some_iff.mp hq
    have hw := List.pairwise_iff_getElem.mp h.1
    rcases Nat.lt_trichotomy i j with g | g | g
    · exact absurd (by rw [ep, eq]; exact e) (hw i j hi hj g)
    · exact g
    · exact absurd (by rw [ep, eq]; exact e.symm) (hw j i hj hi g)
/-- cells of a pool -/
def inPl (L : List Nat) (f : Nat → va_E) : va_W → Prop
  | [] => True
  | c :: cs => (c.1 ∈ L ∧ f c.1 = c.2) ∧ inPl L f cs
theorem inPl_mem {L : List Nat} {f : Nat → va_E} : ∀ {cs : va_W}, inPl L f cs → ∀ c ∈ cs, c.1 ∈ L ∧ f c.1 = c.2
  | c :: cs, h, d, hd => by
    rcases List.mem_cons.mp hd with e | e
    · rw [e]; exact h.1
    · exact inPl_mem h.2 d e
/-- what is left of a pool -/
def outPl (L : List Nat) (cs : va_W) : List Nat := L.filter (fun a => decide (a ∉ cs.map Prod.fst))
theorem outPl_mem {L : List Nat} {cs : va_W} {a : Nat} : a ∈ outPl L cs ↔ a ∈ L ∧ a ∉ cs.map Prod.fst := by
  unfold outPl; rw [List.mem_filter]; exact and_congr_right fun _ => decide_eq_true_iff
theorem pl_mem {L : List Nat} {f : Nat → va_E} {q : Nat × va_E} : q ∈ va_pl L f ↔ q.1 ∈ L ∧ f q.1 = q.2 := by
  unfold va_pl; rw [List.mem_map]
  exact ⟨fun ⟨a, ha, e⟩ => by rw [← e]; exact ⟨ha, rfl⟩, fun ⟨h1, h2⟩ => ⟨q.1, h1, by rw [h2]⟩⟩
theorem pl_out {D : va_G} {cl : List vw_C} {A : Nat → Prop} {X : va_W} {L : List Nat} {f : Nat → va_E} {H : Heap} (hP : va_P D cl (X ++ va_pl L f) H) (hD : va_D A (X ++ va_pl L f)) (cs : va_W) (hc : inPl L f cs) (hn : cs.Pairwise (fun p q => p.1 ≠ q.1)) :
    va_P D cl ((X ++ cs) ++ va_pl (outPl L cs) f) H ∧ va_D A ((X ++ cs) ++ va_pl (outPl L cs) f) := by
  have hm : ∀ q, q ∈ (X ++ cs) ++ va_pl (outPl L cs) f → q ∈ X ++ va_pl L f := fun q hq => by
    rcases List.mem_append.mp hq with hq | hq
    · rcases List.mem_append.mp hq with hq | hq
      · exact List.mem_append.mpr (Or.inl hq)
      · exact List.mem_append.mpr (Or.inr (pl_mem.mpr (inPl_mem hc q hq)))
    · have := pl_mem.mp hq
      exact List.mem_append.mpr (Or.inr (pl_mem.mpr ⟨(outPl_mem.mp this.1).1, this.2⟩))
  refine ⟨vaP_mem.mpr fun q hq => vaP_mem.mp hP q (hm q hq), vaD_mem.mpr ⟨?_, fun q hq => (vaD_mem.mp hD).2 q (hm q hq)⟩⟩
  have hw := List.pairwise_append.mp (vaD_mem.mp hD).1
  refine List.pairwise_append.mpr ⟨List.pairwise_append.mpr ⟨hw.1, hn, fun p hp q hq => hw.2.2 p hp q (pl_mem.mpr (inPl_mem hc q hq))⟩, ?_, fun p hp q hq e => ?_⟩
  · have hs : List.Sublist (va_pl (outPl L cs) f) (va_pl L f) := by unfold va_pl outPl; exact (List.filter_sublist).map _
    exact hw.2.1.sublist hs
  · have hq2 := pl_mem.mp hq
    have hq3 := outPl_mem.mp hq2.1
    rcases List.mem_append.mp hp with hp | hp
    · exact hw.2.2 p hp q (pl_mem.mpr ⟨hq3.1, hq2.2⟩) e
    · exact hq3.2 (by rw [← e]; exact List.mem_map.mpr ⟨p, hp, rfl⟩)
/-- nothing was written: the pool as it was -/
theorem pl_back {D : va_G} {cl : List vw_C} {X : va_W} {L : List Nat} {f : Nat → va_E} {H : Heap} {cs : va_W} (hP : va_P D cl ((X ++ cs) ++ va_pl (outPl L cs) f) H) (hc : inPl L f cs) : va_P D cl (X ++ va_pl L f) H := by
  refine vaP_mem.mpr fun q hq => vaP_mem.mp hP q ?_
  rcases List.mem_append.mp hq with hq | hq
  · exact List.mem_append.mpr (Or.inl (List.mem_append.mpr (Or.inl hq)))
  · have h := pl_mem.mp hq
    by_cases e : q.1 ∈ cs.map Prod.fst
    · obtain ⟨c, hc2, e2⟩ := List.mem_map.mp e
      have h3 := (inPl_mem hc c hc2).2
      have : q = c := Prod.ext e2.symm (by rw [← h.2, ← h3, e2])
      rw [this]; exact List.mem_append.mpr (Or.inl (List.mem_append.mpr (Or.inr hc2)))
    · exact List.mem_append.mpr (Or.inr (pl_mem.mpr ⟨outPl_mem.mpr ⟨h.1, e⟩, h.2⟩))
/-- a pool with some cells' contents anew -/
def plU (f : Nat → va_E) : va_W → Nat → va_E
  | [] => f
  | c :: cs => va_up (plU f cs) c.1 c.2
theorem plU_o {f : Nat → va_E} : ∀ {cs : va_W} {a : Nat}, a ∉ cs.map Prod.fst → plU f cs a = f a
  | [], _, _ => rfl
  | c :: cs, a, h => by
    show va_up (plU f cs) c.1 c.2 a = f a
    unfold va_up
    rw [if_neg (fun e => h (by rw [e]; exact List.mem_cons_self ..))]
    exact plU_o (fun e => h (List.mem_cons_of_mem _ e))
theorem plU_at {f : Nat → va_E} : ∀ {cs : va_W}, cs.Pairwise (fun p q => p.1 ≠ q.1) → ∀ c ∈ cs, plU f cs c.1 = c.2
  | c :: cs, hw, d, hd => by
    have hw := List.pairwise_cons.mp hw
    show va_up (plU f cs) c.1 c.2 d.1 = d.2
    unfold va_up
    rcases List.mem_cons.mp hd with e | e
    · rw [e, if_pos rfl]
    · rw [if_neg (fun g => hw.1 d e g.symm)]; exact plU_at hw.2 d e
/-- what was written goes back into the pool, what is new goes in too -/
theorem pl_in {D : va_G} {cl : List vw_C} {A : Nat → Prop} {X cs : va_W} {R : List Nat} {f : Nat → va_E} {H : Heap} (hP : va_P D cl ((X ++ cs) ++ va_pl R f) H) (hD : va_D A ((X ++ cs) ++ va_pl R f)) :
    va_P D cl (X ++ va_pl (cs.map Prod.fst ++ R) (plU f cs)) H ∧ va_D A (X ++ va_pl (cs.map Prod.fst ++ R) (plU f cs)) := by
  have hw := List.pairwise_append.mp (vaD_mem.mp hD).1
  have hw2 := List.pairwise_append.mp hw.1
  have e : (X ++ cs) ++ va_pl R f = X ++ va_pl (cs.map Prod.fst ++ R) (plU f cs) := by
    rw [List.append_assoc]
    congr 1
    unfold va_pl
    rw [List.map_append, List.map_map]
    congr 1
    · exact (List.map_id cs).symm.trans (List.map_congr_left (f := id) (g := (fun a => (a, plU f cs a)) ∘ Prod.fst) (fun c hc => Prod.ext rfl (plU_at hw2.2.1 c hc).symm))
    · refine List.map_congr_left fun a ha => Prod.ext rfl (plU_o fun g => ?_).symm
      obtain ⟨c, hc, e2⟩ := List.mem_map.mp g
      exact hw.2.2 c (List.mem_append.mpr (Or.inr hc)) (a, f a) (pl_mem.mpr ⟨ha, rfl⟩) e2
  rw [← e]; exact ⟨hP, hD⟩
theorem cl_ne {f : Nat → va_E} {a b i j : Nat} {x y : List Value} (h1 : f a = .inr (i, x)) (h2 : f b = .inr (j, y)) (h : i ≠ j) : a ≠ b := fun e => by
  rw [e, h2] at h1; exact h (Prod.mk.inj (Sum.inr.inj h1)).1.symm
theorem ca_ne {f : Nat → va_E} {a b i : Nat} {x : List Value} {y : ClassId × vp_A} (h1 : f a = .inr (i, x)) (h2 : f b = .inl y) : a ≠ b := fun e => by
  rw [e, h2] at h1; exact absurd h1 (by intro g; cases g)
