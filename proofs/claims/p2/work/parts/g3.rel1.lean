/-! cells of the pool and whose they are; what is kept when some are written -/
def ce (L : List Nat) (f : Nat → va_E) (own : Nat → Nat) (g a : Nat) (e : va_E) : Prop := a ∈ L ∧ f a = e ∧ own a = g
/-- cells of the kinds P are kept -/
def kpT (P : Nat → Prop) (L : List Nat) (f : Nat → va_E) (own : Nat → Nat) (L1 : List Nat) (f1 : Nat → va_E) (own1 : Nat → Nat) : Prop := ∀ g a e, P g → ce L f own g a e → ce L1 f1 own1 g a e
theorem kpT_rf {P : Nat → Prop} {L : List Nat} {f : Nat → va_E} {own : Nat → Nat} : kpT P L f own L f own := fun _ _ _ _ h => h
theorem kpT_tr {P : Nat → Prop} {L L1 L2 : List Nat} {f f1 f2 : Nat → va_E} {own own1 own2 : Nat → Nat} (h : kpT P L f own L1 f1 own1) (h2 : kpT P L1 f1 own1 L2 f2 own2) : kpT P L f own L2 f2 own2 := fun g a e hp hc => h2 g a e hp (h g a e hp hc)
theorem kpT_wk {P P1 : Nat → Prop} {L L1 : List Nat} {f f1 : Nat → va_E} {own own1 : Nat → Nat} (h : kpT P L f own L1 f1 own1) (hp : ∀ g, P1 g → P g) : kpT P1 L f own L1 f1 own1 := fun g a e h1 hc => h g a e (hp g h1) hc
/-- each cell of a list: new, of another kind, or as it was -/
def alK (L : List Nat) (f : Nat → va_E) (own : Nat → Nat) (P : Nat → Prop) : va_W → Prop
  | [] => True
  | c :: cs => (c.1 ∈ L → P (own c.1) → f c.1 = c.2) ∧ alK L f own P cs
theorem alK_m {L : List Nat} {f : Nat → va_E} {own : Nat → Nat} {P : Nat → Prop} : ∀ {cs : va_W}, alK L f own P cs → ∀ c ∈ cs, c.1 ∈ L → P (own c.1) → f c.1 = c.2
  | c :: cs, h, d, hd => by
    rcases List.mem_cons.mp hd with e | e
    · rw [e]; exact h.1
    · exact alK_m h.2 d e
theorem kp_in {P : Nat → Prop} {L : List Nat} {f : Nat → va_E} {own own1 : Nat → Nat} {cs cs1 : va_W} (hn : cs1.Pairwise (fun p q => p.1 ≠ q.1)) (h1 : ∀ a ∈ cs.map Prod.fst, a ∈ cs1.map Prod.fst) (h2 : alK L f own P cs1) (ho : ∀ a ∈ L, own1 a = own a) : kpT P L f own (cs1.map Prod.fst ++ outPl L cs) (plU f cs1) own1 := by
  intro g a e hp hc
  by_cases q : a ∈ cs1.map Prod.fst
  · obtain ⟨c, hc1, hc2⟩ := List.mem_map.mp q
    refine ⟨List.mem_append.mpr (Or.inl q), ?_, by rw [ho a hc.1]; exact hc.2.2⟩
    have h3 := plU_at (f := f) hn c hc1
    rw [hc2] at h3
    have h4 := alK_m h2 c hc1 (by rw [hc2]; exact hc.1) (by rw [hc2, hc.2.2]; exact hp)
    rw [h3, ← h4, hc2]; exact hc.2.1
  · exact ⟨List.mem_append.mpr (Or.inr (outPl_mem.mpr ⟨hc.1, fun h => q (h1 a h)⟩)), (plU_o q).trans hc.2.1, by rw [ho a hc.1]; exact hc.2.2⟩
theorem ce_in {L : List Nat} {f : Nat → va_E} {own1 : Nat → Nat} {cs cs1 : va_W} {g a : Nat} {e : va_E} (hn : cs1.Pairwise (fun p q => p.1 ≠ q.1)) (k : Nat) (hk : cs1[k]? = some (a, e)) (ho : own1 a = g) : ce (cs1.map Prod.fst ++ outPl L cs) (plU f cs1) own1 g a e := by
  have hm := List.mem_of_getElem? hk
  exact ⟨List.mem_append.mpr (Or.inl (List.mem_map.mpr ⟨_, hm, rfl⟩)), plU_at hn _ hm, ho⟩
theorem in_in {L : List Nat} {cs cs1 : va_W} {a : Nat} (ha : a ∈ L) (h1 : ∀ a ∈ cs.map Prod.fst, a ∈ cs1.map Prod.fst) : a ∈ cs1.map Prod.fst ++ outPl L cs := by
  by_cases q : a ∈ cs1.map Prod.fst
  · exact List.mem_append.mpr (Or.inl q)
  · exact List.mem_append.mpr (Or.inr (outPl_mem.mpr ⟨ha, fun h => q (h1 a h)⟩))
/-- a new cell's owner -/
def ow (own : Nat → Nat) (a g : Nat) : Nat → Nat := fun b => if b = a then g else own b
theorem ow_at {own : Nat → Nat} {a g : Nat} : ow own a g a = g := if_pos rfl
theorem ow_o {own : Nat → Nat} {a g b : Nat} (h : b ≠ a) : ow own a g b = own b := if_neg h
theorem ce_ne {L : List Nat} {f : Nat → va_E} {own : Nat → Nat} {g a g2 a2 : Nat} {e e2 : va_E} (h : ce L f own g a e) (h2 : ce L f own g2 a2 e2) (hg : g ≠ g2) : a ≠ a2 := fun q => hg (by rw [← h.2.2, ← h2.2.2, q])
theorem ce_nf {L : List Nat} {f : Nat → va_E} {own : Nat → Nat} {g a a2 : Nat} {e e2 : va_E} (h : ce L f own g a e) (h2 : f a2 = e2) (hg : e ≠ e2) : a ≠ a2 := fun q => hg (by rw [← h.2.1, ← h2, q])
theorem ce_pl {L : List Nat} {f : Nat → va_E} {own : Nat → Nat} {g a : Nat} {e : va_E} (h : ce L f own g a e) : a ∈ L ∧ f a = e := ⟨h.1, h.2.1⟩
/-- a cell that is left in the pool -/
theorem ce_out {L : List Nat} {f : Nat → va_E} {own : Nat → Nat} {g a : Nat} {e : va_E} {cs : va_W} (h : ce L f own g a e) (hn : ∀ c ∈ cs, own c.1 ≠ g) : ce (outPl L cs) f own g a e :=
  ⟨outPl_mem.mpr ⟨h.1, fun q => by obtain ⟨c, h1, h2⟩ := List.mem_map.mp q; exact hn c h1 (by rw [h2]; exact h.2.2)⟩, h.2⟩
/-- a row -/
def rwG (cI : ClassId) (L : List Nat) (f : Nat → va_E) (own : Nat → Nat) (g r rx ry n cap : Nat) (X Y : Nat → Int32) (rg : Int32) : Prop :=
  ce L f own g r (.inr (6, [.ref rx, .ref ry, .int (nI n), .int rg])) ∧ ce L f own g rx (.inl (cI, cap, .inl X)) ∧ ce L f own g ry (.inl (cI, cap, .inl Y)) ∧ rx ≠ ry
theorem rwG_kp {P : Nat → Prop} {cI : ClassId} {L L1 : List Nat} {f f1 : Nat → va_E} {own own1 : Nat → Nat} {g r rx ry n cap : Nat} {X Y : Nat → Int32} {rg : Int32} (h : kpT P L f own L1 f1 own1) (hp : P g) (hr : rwG cI L f own g r rx ry n cap X Y rg) : rwG cI L1 f1 own1 g r rx ry n cap X Y rg :=
  ⟨h _ _ _ hp hr.1, h _ _ _ hp hr.2.1, h _ _ _ hp hr.2.2.1, hr.2.2.2⟩
/-- a look, and the row that it holds: a feature's corners are n, at C and D -/
def lkR (cI : ClassId) (L : List Nat) (f : Nat → va_E) (own : Nat → Nat) (gr : Nat) (rv : Value) (kd st tn : Int32) (we n : Nat) (C D : Nat → Int32) : Prop :=
  (¬ tn.toInt = 0 → rv = .null) ∧ (tn.toInt = 0 → ∃ (r rx ry cap : Nat) (X Y : Nat → Int32), rv = .ref r ∧ rwG cI L f own gr r rx ry n cap X Y (rgK kd.toInt) ∧ n ≤ cap ∧ cap ≤ 40 ∧ (st.toInt = 0 → cap = (if kd.toInt = 0 then 1 else 40) ∧ we = 0) ∧ (∀ k, k < n → X k = C k ∧ Y k = D k) ∧ ((1 ≤ kd.toInt ∧ kd.toInt ≤ 5) → we + n ≤ 40))
def lkG (cI : ClassId) (L : List Nat) (f : Nat → va_E) (own : Nat → Nat) (gl gr a cl : Nat) (kd st gb it tn : Int32) (n : Nat) (C D : Nat → Int32) : Prop :=
  ∃ (we : Nat) (rv : Value), ce L f own gl a (.inr (4, [.int kd, .int st, rv, .int gb, .int it, .int (nI we)])) ∧ we ≤ 40 ∧ ((1 ≤ kd.toInt ∧ kd.toInt ≤ 5) → cl = 40) ∧ lkR cI L f own gr rv kd st tn we n C D
theorem lkR_kp {P : Nat → Prop} {cI : ClassId} {L L1 : List Nat} {f f1 : Nat → va_E} {own own1 : Nat → Nat} {gr : Nat} {rv : Value} {kd st tn : Int32} {we n : Nat} {C D : Nat → Int32} (h : kpT P L f own L1 f1 own1) (hp : P gr) (hr : lkR cI L f own gr rv kd st tn we n C D) : lkR cI L1 f1 own1 gr rv kd st tn we n C D := by
  refine ⟨hr.1, fun h0 => ?_⟩
  obtain ⟨r, rx, ry, cap, X, Y, h1, h2, h3⟩ := hr.2 h0
  exact ⟨r, rx, ry, cap, X, Y, h1, rwG_kp h hp h2, h3⟩
theorem lkG_kp {P : Nat → Prop} {cI : ClassId} {L L1 : List Nat} {f f1 : Nat → va_E} {own own1 : Nat → Nat} {gl gr a cl : Nat} {kd st gb it tn : Int32} {n : Nat} {C D : Nat → Int32} (h : kpT P L f own L1 f1 own1) (hp : P gl) (hq : P gr) (hl : lkG cI L f own gl gr a cl kd st gb it tn n C D) : lkG cI L1 f1 own1 gl gr a cl kd st gb it tn n C D := by
  obtain ⟨we, rv, h1, h2, h3, h4⟩ := hl
  exact ⟨we, rv, h _ _ _ hp h1, h2, h3, lkR_kp h hq h4⟩
theorem lkR_cg {cI : ClassId} {L : List Nat} {f : Nat → va_E} {own : Nat → Nat} {gr : Nat} {rv : Value} {kd st tn : Int32} {we n : Nat} {C D C1 D1 : Nat → Int32} (hc : ∀ k, k < 40 → C1 k = C k ∧ D1 k = D k) (h : lkR cI L f own gr rv kd st tn we n C D) : lkR cI L f own gr rv kd st tn we n C1 D1 := by
  refine ⟨h.1, fun h0 => ?_⟩
  obtain ⟨r, rx, ry, cap, X, Y, h1, h2, h3, h4, h5, h6, h7⟩ := h.2 h0
  exact ⟨r, rx, ry, cap, X, Y, h1, h2, h3, h4, h5, fun k hk => by rw [(hc k (by omega)).1, (hc k (by omega)).2]; exact h6 k hk, h7⟩
theorem lkG_cg {cI : ClassId} {L : List Nat} {f : Nat → va_E} {own : Nat → Nat} {gl gr a cl : Nat} {kd st gb it tn : Int32} {n : Nat} {C D C1 D1 : Nat → Int32} (hc : ∀ k, k < 40 → C1 k = C k ∧ D1 k = D k) (h : lkG cI L f own gl gr a cl kd st gb it tn n C D) : lkG cI L f own gl gr a cl kd st gb it tn n C1 D1 := by
  obtain ⟨we, rv, h1, h2, h3, h4⟩ := h
  exact ⟨we, rv, h1, h2, h3, lkR_cg hc h4⟩
/-- a torn one's corners do not matter -/
theorem lkG_tn {cI : ClassId} {L : List Nat} {f : Nat → va_E} {own : Nat → Nat} {gl gr a cl : Nat} {kd st gb it tn : Int32} {n n1 : Nat} {C D C1 D1 : Nat → Int32} (h0 : ¬ tn.toInt = 0) (h : lkG cI L f own gl gr a cl kd st gb it tn n C D) : lkG cI L f own gl gr a cl kd st gb it tn n1 C1 D1 := by
  obtain ⟨we, rv, h1, h2, h3, h4⟩ := h
  exact ⟨we, rv, h1, h2, h3, h4.1, fun g => absurd g h0⟩
/-- a feature's own cells -/
def feG (cI : ClassId) (L : List Nat) (f : Nat → va_E) (own : Nat → Nat) (q fe nw cl : Nat) (fm : Value) (rk wd tw pa pb : Int32) : Prop :=
  ∃ (lo lx ly ln : Nat) (LX LY : Nat → Int32), ce L f own (8 * q) fe (.inr (1, [.int rk, .int wd, .int tw, .int pa, .int pb, .ref lo, .ref nw, fm])) ∧ rwG cI L f own (8 * q + 1) lo lx ly ln cl LX LY 0 ∧ ln ≤ cl ∧ 1 ≤ cl ∧ cl ≤ 40
theorem feG_kp {P : Nat → Prop} {cI : ClassId} {L L1 : List Nat} {f f1 : Nat → va_E} {own own1 : Nat → Nat} {q fe nw cl : Nat} {fm : Value} {rk wd tw pa pb : Int32} (h : kpT P L f own L1 f1 own1) (hp : P (8 * q)) (hq : P (8 * q + 1)) (hf : feG cI L f own q fe nw cl fm rk wd tw pa pb) : feG cI L1 f1 own1 q fe nw cl fm rk wd tw pa pb := by
  obtain ⟨lo, lx, ly, ln, LX, LY, h1, h2, h3⟩ := hf
  exact ⟨lo, lx, ly, ln, LX, LY, h _ _ _ hp h1, rwG_kp h hq h2, h3⟩
/-- the changes of a step: of the features qs, from lb to la -/
def chn (L : List Nat) (f : Nat → va_E) (own fe lb la : Nat → Nat) : Value → List Nat → Prop
  | v, [] => v = .null
  | v, q :: qs => ∃ (c : Nat) (nx : Value), v = .ref c ∧ ce L f own 8003 c (.inr (12, [.ref (fe q), .ref (lb q), .ref (la q), nx])) ∧ chn L f own fe lb la nx qs
theorem chn_kp {P : Nat → Prop} {L L1 : List Nat} {f f1 : Nat → va_E} {own own1 fe lb la : Nat → Nat} (h : kpT P L f own L1 f1 own1) (hp : P 8003) : ∀ {qs : List Nat} {v : Value}, chn L f own fe lb la v qs → chn L1 f1 own1 fe lb la v qs
  | [], _, hc => hc
  | q :: qs, v, hc => by
    obtain ⟨c, nx, h1, h2, h3⟩ := hc
    exact ⟨c, nx, h1, h _ _ _ hp h2, chn_kp h hp h3⟩
theorem chn_cg {L : List Nat} {f : Nat → va_E} {own fe lb la fe1 lb1 la1 : Nat → Nat} : ∀ {qs : List Nat} {v : Value}, (∀ q ∈ qs, fe1 q = fe q ∧ lb1 q = lb q ∧ la1 q = la q) → chn L f own fe lb la v qs → chn L f own fe1 lb1 la1 v qs
  | [], _, _, hc => hc
  | q :: qs, v, hq, hc => by
    obtain ⟨c, nx, h1, h2, h3⟩ := hc
    have e := hq q (List.mem_cons_self ..)
    exact ⟨c, nx, h1, by rw [e.1, e.2.1, e.2.2]; exact h2, chn_cg (fun p hp => hq p (List.mem_cons_of_mem _ hp)) h3⟩

/-- what is known of a pool into which cells were put: as they are now (old), and new ones -/
def pinD (L : List Nat) (f : Nat → va_E) (X old new cs1 : va_W) (L1 : List Nat) (f1 : Nat → va_E) : Prop :=
  (∀ c ∈ new, c.1 ∉ L) ∧ (∀ (own own1 : Nat → Nat) (P : Nat → Prop), (∀ a ∈ L, own1 a = own a) → alK L f own P old → kpT P L f own L1 f1 own1) ∧
      (∀ (own1 : Nat → Nat) (k : Nat) (a : Nat) (v : va_E) (g : Nat), cs1[k]? = some (a, v) → own1 a = g → ce L1 f1 own1 g a v) ∧ (∀ c ∈ cs1, ∀ d ∈ X, d.1 ≠ c.1) ∧ cs1.Pairwise (fun p q => p.1 ≠ q.1)
/-- cells that were taken out (cs), as they are now (old), and new ones (new), go back into the pool -/
theorem pl_pin {D : va_G} {cl : List vw_C} {A : Nat → Prop} {X cs old new cs1 : va_W} {L : List Nat} {f : Nat → va_E} {H : Heap} (e : cs1 = old ++ new) (hm : old.map Prod.fst = cs.map Prod.fst) (hP : va_P D cl ((X ++ cs1) ++ va_pl (outPl L cs) f) H) (hD : va_D A ((X ++ cs1) ++ va_pl (outPl L cs) f)) :
    ∃ (L1 : List Nat) (f1 : Nat → va_E), va_P D cl (X ++ va_pl L1 f1) H ∧ va_D A (X ++ va_pl L1 f1) ∧ pinD L f X old new cs1 L1 f1 := by
  have hw := List.pairwise_append.mp (vaD_mem.mp hD).1
  have hw2 := List.pairwise_append.mp hw.1
  have hw3 := hw2.2.1
  have hsub : ∀ a ∈ cs.map Prod.fst, a ∈ cs1.map Prod.fst := fun a ha => by rw [e, List.map_append, hm]; exact List.mem_append.mpr (Or.inl ha)
  have hfr : ∀ c ∈ new, c.1 ∉ L := fun c hc hL => by
    have hc1 : c ∈ cs1 := by rw [e]; exact List.mem_append.mpr (Or.inr hc)
    have hno : c.1 ∉ cs.map Prod.fst := fun h => by
      rw [← hm] at h
      obtain ⟨d, hd, ed⟩ := List.mem_map.mp h
      rw [e] at hw3
      exact (List.pairwise_append.mp hw3).2.2 d hd c hc ed
    exact hw.2.2 c (List.mem_append.mpr (Or.inr hc1)) (c.1, f c.1) (pl_mem.mpr ⟨outPl_mem.mpr ⟨hL, hno⟩, rfl⟩) rfl
  obtain ⟨p1, p2⟩ := pl_in hP hD
  refine ⟨_, _, p1, p2, hfr, fun own own1 P ho ha => kp_in hw3 hsub ?_ ho, fun own1 k a v g hk ho => ce_in hw3 k hk ho, fun c hc d hd => hw2.2.2 d hd c hc, hw3⟩
  rw [e]
  have go : ∀ (o n : va_W), alK L f own P o → (∀ c ∈ n, c.1 ∉ L) → alK L f own P (o ++ n) := by
    intro o
    induction o with
    | nil =>
      intro n _ hn
      induction n with
      | nil => trivial
      | cons c n ih => exact ⟨fun h => absurd h (hn c (List.mem_cons_self ..)), ih (fun d hd => hn d (List.mem_cons_of_mem _ hd))⟩
    | cons c o ih => intro n h hn; exact ⟨h.1, ih n h.2 hn⟩
  exact go old new ha hfr
theorem ow_L {L : List Nat} {own own1 : Nat → Nat} {n g : Nat} (h : ∀ a ∈ L, own1 a = own a) (hn : n ∉ L) : ∀ a ∈ L, ow own1 n g a = own a := fun a ha => by rw [ow_o (fun e => hn (by rw [← e]; exact ha))]; exact h a ha
theorem pwN {cs : va_W} (h : cs.Pairwise (fun p q => p.1 ≠ q.1)) {i j a b : Nat} {v w : va_E} (hi : cs[i]? = some (a, v)) (hj : cs[j]? = some (b, w)) (hij : i ≠ j) : a ≠ b := fun e => by
  obtain ⟨h1, h2⟩ := List.getElem?_eq_some_iff.mp hi
  obtain ⟨h3, h4⟩ := List.getElem?_eq_some_iff.mp hj
  have hw := List.pairwise_iff_getElem.mp h
  rcases Nat.lt_or_gt_of_ne hij with g | g
  · exact hw i j h1 h3 g (by rw [h2, h4]; exact e)
  · exact hw j i h3 h1 g (by rw [h2, h4]; exact e.symm)
