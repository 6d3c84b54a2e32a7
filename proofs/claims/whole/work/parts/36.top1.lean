/-! Calls that only ask: both sides answer alike. -/
section T1
variable {A : aA} {D : aD}
def Rd (mX mM : Nat) (as : List am_V) (A : aA) (D : aD) : Prop := ∃ v, Ev 0 200 mX (am_r (some 32) :: as) A D (ri v) A D ∧ Ev 0 200 mM (am_r (some 70) :: as) A D (ri v) A D
theorem Rd_mk {mX mM c1 c2 : Nat} {as : List am_V} {v : Int} (h1 : Ev 0 c1 mX (am_r (some 32) :: as) A D (ri v) A D) (h2 : Ev 0 c2 mM (am_r (some 70) :: as) A D (ri v) A D) (hc1 : c1 ≤ 200) (hc2 : c2 ≤ 200) : Rd mX mM as A D := ⟨v, h1.le hc1, h2.le hc2⟩
theorem Ev_fx {c mm : Nat} {as : List am_V} {x : Int} (H : ∀ F, Sm F D → Ev 1 c mm as A F (ri x) A F) : Ev 0 c mm as A D (ri x) A D := Ev_pure (by decide) (fun F hF => ⟨F, H F (Sm_le hF), hF⟩)
theorem Rd_fx {mX mM : Nat} {as : List am_V} {v : Int} (h1 : ∀ F, Sm F D → Ev 1 200 mX (am_r (some 32) :: as) A F (ri v) A F) (h2 : ∀ F, Sm F D → Ev 1 200 mM (am_r (some 70) :: as) A F (ri v) A F) : Rd mX mM as A D := ⟨v, Ev_fx h1, Ev_fx h2⟩
theorem bo (hI : Inv D) (day : Int) : (0 ≤ w_bookOf D day ∧ (w_bookOf D day < D 70 26 ∨ w_bookOf D day = 8)) ∧ rr_ (w_bookOf D day) = w_inForce D day ∧ (w_inForce D day = -1 → w_bookOf D day = 8) ∧ (¬ w_inForce D day = -1 → w_bookOf D day = w_inForce D day ∧ 0 ≤ w_inForce D day ∧ w_inForce D day < D 70 26) := by
  have hc := hI.rb.1
  have hb := inForce_b (D := D) (d := day)
  unfold w_bookOf bk rr_
  by_cases c : w_inForce D day = -1
  · rw [if_pos c, if_pos rfl]; omega
  · rw [if_neg c]
    refine ⟨by omega, ?_, fun q => absurd q c, fun _ => by omega⟩
    split <;> omega
theorem last_b (hI : Inv D) {r a b : Int} (r0 : -1 ≤ r) (r1 : r < D 70 26) : w_last D r a b = -1 ∨ (0 ≤ w_last D r a b ∧ w_last D r a b < 240 ∧ ¬ r = -1 ∧ (∃ j, 0 ≤ j ∧ j < D 92 r ∧ w_last D r a b = 30 * r + j) ∧ D 94 (w_last D r a b) = a ∧ D 95 (w_last D r a b) = b) := by
  have hc := hI.rb.1
  unfold w_last
  by_cases c : r = -1
  · rw [if_pos c]; exact Or.inl rfl
  · rw [if_neg c]
    have hB := (hI.rb.2.2.1 r (by omega) r1).2.2.2.1
    rcases lk_b (D := D) (r := r) (what := a) (which := b) (D 92 r) hB.1 (Int.le_refl _) r0 with h | h
    · exact Or.inl h
    · refine Or.inr ⟨?_, ?_, c, ⟨lk D r a b - 30 * r, ?_, ?_, ?_⟩, h.2.2.1, h.2.2.2⟩ <;> unfold lk <;> omega
theorem stm (hI : Inv D) {r j : Int} (r0 : 0 ≤ r) (r1 : r < D 70 26) (j0 : 0 ≤ j) (j1 : j < D 92 r) : Stm D (64 * r + j) (30 * r + j) := (hI.rb.2.2.1 r r0 r1).2.2.2.2 j j0 j1
theorem pLast (hI : Inv D) (day a b : Int) : p_last D (w_inForce D day) a b := by
  have hb := inForce_b (D := D) (d := day)
  have hc := hI.rb.1
  exact ⟨hI.rb, by omega, by omega⟩
theorem pTells (hI : Inv D) (day a b z : Int) : p_X12_tells D day a b z := by
  refine ⟨hI.rb, pLast hI day a b, ?_⟩
  split
  · trivial
  · have h := pLast hI day a b
    rcases last_b hI (a := a) (b := b) h.2.1 h.2.2 with q | q
    · contradiction
    · exact ⟨q.1, by omega⟩
/-- what a book tells, with bounds -/
theorem tl_b (hI : Inv D) {day a b z : Int} (ha : a ≠ 5) (hz : 0 ≤ z ∧ z ≤ 9999) : 0 ≤ tl D (w_inForce D day) a b z ∧ tl D (w_inForce D day) a b z ≤ 9999 := by
  unfold tl
  split
  · exact hz
  · have h := pLast hI day a b
    rcases last_b hI (a := a) (b := b) h.2.1 h.2.2 with q | ⟨q1, q2, q3, ⟨j, j0, j1, e⟩, q4, q5⟩
    · contradiction
    · have hs := stm hI (by have := h.2.1; omega) h.2.2 j0 j1
      rw [← e] at hs
      exact hs.2.2.2.2.1 (by rw [q4]; exact ha)
theorem tl_eq (D : aD) (day a b z : Int) : v_X12_tells D day a b z = tl D (w_inForce D day) a b z := rfl
theorem hdr (hI : Inv D) (day : Int) : Hdr D (w_bookOf D day) (w_inForce D day) := by
  have h := bok_hd hI (bo hI day).1
  rw [(bo hI day).2.1] at h
  exact h.1
theorem law_eq (hI : Inv D) (a b : Int) : v_X11_law D a b = v_X12_law D a b := by
  have hb := bo hI a
  obtain ⟨⟨h0, h1, h2, h3, h4, h5⟩, h6, -⟩ := hdr hI a
  have hf := (bo hI a).2.2
  unfold v_X11_law v_X12_law
  rw [xDy, tl_eq, tl_eq, tl_eq, tl_eq, tl_eq, h0, h1, h2, h3, h4, h5, one0, one1]
  have e6 : D 1002 (8 + w_bookOf D a) = if w_inForce D a = -1 then 0 else D 92 (w_inForce D a) := by
    split
    · rename_i c; rw [hf.1 c]; exact hI.rb.2.2.2.2.2
    · rename_i c; rw [(hf.2 c).1]; exact (hI.rb.2.2.1 _ (hf.2 c).2.1 (hf.2 c).2.2).2.2.1
  have e7 : D 2400 (w_bookOf D a) = w_inForce D a := by
    by_cases c : w_inForce D a = -1
    · rw [hf.1 c, c]; exact hI.rb.2.2.2.2.1
    · rw [(hf.2 c).1]; exact (hI.rb.2.2.1 _ (hf.2 c).2.1 (hf.2 c).2.2).1.1
  rw [e6, e7]
  have e5 : (if (if w_last D (w_inForce D a) 5 0 = -1 then (0 : Int) else 1) = 0 then (0 : Int) else 1) = if w_last D (w_inForce D a) 5 0 = -1 then 0 else 1 := by
    by_cases c : w_last D (w_inForce D a) 5 0 = -1
    · rw [if_pos c, if_pos rfl]
    · rw [if_neg c, if_neg (by decide)]
  rw [e5, inb_eq]
  have e8 : ¬ v_X12_isIn D b 10 15 = 0 → D 3301 (1024 * w_bookOf D a + wr (b - 10)) = tl D (w_inForce D a) 3 (wr (b - 10)) 0 := fun c => by
    have := isI.mp c
    rw [wr_id (by omega) (by omega)]; exact h6 _ (by omega) (by omega)
  by_cases c : v_X12_isIn D b 10 15 = 0
  · rw [if_pos c, if_pos c]
  · rw [if_neg c, if_neg c, e8 c]
theorem c_law (hI : Inv D) (a b : Int) (h1 : rg a) (h2 : rg b) : Rd 87 177 [am_i (wz a), am_i (wz b)] A D := by
  refine Rd_mk (c1 := 6) (c2 := 3) (Ev_i (ev_X11_law (n := 0) (A := A) (D := D) a b h1 h2 ?_) (law_eq hI a b)) (ev_X12_law (n := 0) a b h1 h2 ?_) (by decide) (by decide)
  · unfold p_X11_law
    have h6 := (hdr hI a).2.2.1
    split
    · trivial
    refine ⟨hI.rb, ?_⟩
    repeat' split
    all_goals first
      | trivial
      | (rename_i c; have := (isI (D := D)).mp c; rw [h6, wr_id (by omega) (by omega)]; omega)
  · unfold p_X12_law
    have hb := inForce_b (D := D) (d := a)
    have hc := hI.rb.1
    split
    · trivial
    refine ⟨hI.rb, ?_⟩
    have hl := pLast hI a 2 0
    have hl5 := pLast hI a 5 0
    repeat' (first | exact pTells hI _ _ _ _ | exact hl | exact hl5 | apply And.intro | split)
    all_goals first
      | trivial
      | omega
      | (rcases last_b hI (a := 2) (b := 0) hl.2.1 hl.2.2 with q | q <;> omega)
/-- skills -/
theorem sk_eq {a b : Int} (ha : rg a) : o_and a (o_xor b (-1)) = 0 ↔ o_and a b = a := by
  have e1 : o_and a (o_xor b (-1)) = (wz a &&& (wz b ^^^ wz (-1))).toInt := by unfold o_and o_xor; rw [wz_of]
  have e2 : (o_and a b = a) ↔ wz a &&& wz b = wz a := by
    unfold o_and
    rw [← Int32.toInt_inj (x := wz a &&& wz b), wz_to ha]
  have e3 : ((wz a &&& (wz b ^^^ wz (-1))).toInt = 0) ↔ wz a &&& (wz b ^^^ wz (-1)) = 0 := by
    rw [← Int32.toInt_inj]; exact Iff.rfl
  rw [e1, e2, e3]
  generalize wz a = x
  generalize wz b = y
  have em : (wz (-1)).toBitVec = BitVec.allOnes 32 := by decide
  rw [← Int32.toBitVec_inj, ← Int32.toBitVec_inj, Int32.toBitVec_and, Int32.toBitVec_xor, em, Int32.toBitVec_and]
  constructor
  · intro h
    apply BitVec.eq_of_getLsbD_eq
    intro i hi
    have := congrArg (fun z => z.getLsbD i) h
    simp only [BitVec.getLsbD_and, BitVec.getLsbD_xor, BitVec.getLsbD_allOnes] at this
    have z : ((0 : Int32).toBitVec).getLsbD i = false := by
      have : (0 : Int32).toBitVec = 0#32 := by decide
      rw [this]; simp
    rw [z] at this
    rw [BitVec.getLsbD_and]
    simp only [hi, decide_true] at this
    cases hx : x.toBitVec.getLsbD i <;> cases hy : y.toBitVec.getLsbD i <;> simp_all
  · intro h
    apply BitVec.eq_of_getLsbD_eq
    intro i hi
    have := congrArg (fun z => z.getLsbD i) h
    simp only [BitVec.getLsbD_and] at this
    have z : ((0 : Int32).toBitVec).getLsbD i = false := by
      have : (0 : Int32).toBitVec = 0#32 := by decide
      rw [this]; simp
    rw [z]
    simp only [BitVec.getLsbD_and, BitVec.getLsbD_xor, BitVec.getLsbD_allOnes, hi, decide_true]
    cases hx : x.toBitVec.getLsbD i <;> cases hy : y.toBitVec.getLsbD i <;> simp_all
/-- the statement that holds, on both sides -/
theorem fhXM (hI : Inv D) {kind which s p d : Int} (hk : kind = 0 ∨ kind = 4) : (w_fhX D (w_bookOf D d) kind which s p d = -1 ∧ w_fhM D kind which p s d = -1) ∨ (0 ≤ w_fhX D (w_bookOf D d) kind which s p d ∧ (0 ≤ w_fhM D kind which p s d ∧ w_fhM D kind which p s d < 270) ∧ D 2603 (w_fhX D (w_bookOf D d) kind which s p d) = D 96 (w_fhM D kind which p s d) ∧ (0 ≤ D 96 (w_fhM D kind which p s d) ∧ D 96 (w_fhM D kind which p s d) ≤ 9999) ∧ (kind = 0 → D 2604 (w_fhX D (w_bookOf D d) kind which s p d) = D 97 (w_fhM D kind which p s d) ∧ 0 ≤ D 97 (w_fhM D kind which p s d) ∧ D 97 (w_fhM D kind which p s d) ≤ 300)) := by
  have hb := bo hI d
  have hc := hI.rb.1
  unfold w_fhX w_fhM
  rw [hb.2.1]
  rcases fh_b (D := D) (r := w_inForce D d) (what := kind) (which := which) (s := s) (p := p) (d := d) with h | ⟨h1, h2, h3, h4, h5⟩
  · rw [if_pos h, if_pos h]; exact Or.inl ⟨rfl, rfl⟩
  · have q := hb.2.2.2 h3
    rw [if_neg (by omega), if_neg (by omega), q.1]
    generalize fh D (w_inForce D d) kind which s p d = j at *
    have hs := stm hI q.2.1 q.2.2 h1 h2
    have hB := (hI.rb.2.2.1 _ q.2.1 q.2.2).2.2.2.1
    refine Or.inr ⟨by omega, by omega, hs.2.2.2.2.2.1 (by omega) (by omega), hs.2.2.2.2.1 (by omega), fun z => ?_⟩
    exact hs.2.2.2.2.2.2.2.1 (by omega)
theorem pfhX (hI : Inv D) {kind which s p d : Int} (hk : kind = 0 ∨ kind = 4) (hs : 0 ≤ s ∧ s < D 70 1) (hp : 0 ≤ p ∧ p < D 70 3) (hd : 0 ≤ d ∧ d ≤ 999) : p_fh D (w_bookOf D d) kind which s p d := ⟨hI, (bo hI d).1, hk, hs, hp, hd⟩
theorem pfhM (hI : Inv D) {kind which s p d : Int} (hk : kind = 0 ∨ kind = 4) (hs : 0 ≤ s ∧ s < D 70 1) (hp : 0 ≤ p ∧ p < D 70 3) (hd : 0 ≤ d ∧ d ≤ 999) : p_fhM D kind which p s d := ⟨hI, hk, hs, hp, hd⟩
theorem fit_eq (hI : Inv D) {s p d : Int} (hs : 0 ≤ s ∧ s < D 70 1) (hp : 0 ≤ p ∧ p < D 70 3) (hd : 0 ≤ d ∧ d ≤ 999) : v_X7_unfitness D (w_bookOf D d) s p d = v_X12_fitOf D s p d := by
  have hsv := hI.iv.sv s hs.1 hs.2
  have hpl := hI.iv.pl p hp.1 hp.2
  obtain ⟨⟨h0, h1, h2, h3, h4, h5⟩, h6, -⟩ := hdr hI d
  have hf := fhXM hI (which := D 78 p) (s := s) (p := p) (d := d) (Or.inr rfl : (4 : Int) = 0 ∨ (4 : Int) = 4)
  unfold v_X7_unfitness v_X12_fitOf
  rw [(age_eq hI.iv hs.1 hs.2 hd.1 hd.2).1, hsv.2.2.1, hsv.2.2.2.1, hpl.2.2.2.1, hpl.2.2.2.2.1, hpl.2.2.2.2.2.1, hpl.2.2.2.2.2.2.1, hpl.2.2.2.2.2.2.2.1, h5, tl_eq, h6 _ (by omega) (by omega)]
  simp only [sk_eq (a := D 80 p) (b := D 72 s) (rgb (by omega) (by omega))]
  have e : (if w_fhX D (w_bookOf D d) 4 (D 78 p) s p d < 0 then (0 : Int) else if D 2603 (w_fhX D (w_bookOf D d) 4 (D 78 p) s p d) ≤ D 79 p then 0 else 4) = (if w_fhM D 4 (D 78 p) p s d = -1 then 0 else if D 96 (w_fhM D 4 (D 78 p) p s d) ≤ D 79 p then 0 else 4) := by
    rcases hf with q | q
    · rw [if_pos (by omega), if_pos q.2]
    · rw [if_neg (by omega), if_neg (show ¬ w_fhM D 4 (D 78 p) p s d = -1 by omega), q.2.2.1]
  rw [e]
  by_cases c : w_last D (w_inForce D d) 5 0 = -1
  · simp only [if_pos c, if_true]
  · simp only [if_neg c]; rfl
theorem pfitX (hI : Inv D) {s p d : Int} (hs : 0 ≤ s ∧ s < D 70 1) (hp : 0 ≤ p ∧ p < D 70 3) (hd : 0 ≤ d ∧ d ≤ 999) : p_X7_unfitness D (w_bookOf D d) s p d := by
  have hpl := hI.iv.pl p hp.1 hp.2
  have h6 := (hdr hI d).2.2.1
  have q := pfhX hI (which := D 2103 p) (Or.inr rfl : (4 : Int) = 0 ∨ (4 : Int) = 4) hs hp hd
  unfold p_X7_unfitness
  repeat' (first | exact q | apply And.intro | split)
  all_goals first | trivial | omega
theorem pfitM (hI : Inv D) {s p d : Int} (hs : 0 ≤ s ∧ s < D 70 1) (hp : 0 ≤ p ∧ p < D 70 3) (hd : 0 ≤ d ∧ d ≤ 999) : p_X12_fitOf D s p d := by
  have hc := hI.iv.ct; unfold I_ct at hc
  have q := pfhM hI (which := D 78 p) (Or.inr rfl : (4 : Int) = 0 ∨ (4 : Int) = 4) hs hp hd
  have hf := fhXM hI (which := D 78 p) (s := s) (p := p) (d := d) (Or.inr rfl : (4 : Int) = 0 ∨ (4 : Int) = 4)
  have ha : p_X12_ageOn D s d := ⟨by omega, by omega⟩
  have hi : p_inv1 D d := hI.rb
  have hl := pLast hI d 5 0
  unfold p_X12_fitOf
  repeat' (first | exact q | exact ha | exact pTells hI _ _ _ _ | exact hi | exact hl | apply And.intro | split)
  all_goals first | trivial | omega
theorem fit_cg {F : aD} (hm : Sm F D) (s p d : Int) : v_X12_fitOf F s p d = v_X12_fitOf D s p d := by
  unfold v_X12_fitOf v_X12_tells w_fhM v_X12_ageOn
  simp only [hm 80 rfl, hm 72 rfl, hm 81 rfl, hm 78 rfl, hm 82 rfl, hm 73 rfl, hm 96 rfl, hm 79 rfl, hm 71 rfl, last_cg hm, if_cg hm, fh_cg hm]
theorem fit_b (D : aD) (s p d : Int) : 0 ≤ v_X12_fitOf D s p d ∧ v_X12_fitOf D s p d ≤ 4 := by
  unfold v_X12_fitOf
  repeat' split
  all_goals omega
theorem c_fit (hI : Inv D) (s p d : Int) (h1 : rg s) (h2 : rg p) (h3 : rg d) : Rd 88 179 [am_i (wz s), am_i (wz p), am_i (wz d)] A D := by
  have key : ∀ F, Sm F D → v_X11_fit F s p d = v_X12_fit D s p d ∧ v_X12_fit F s p d = v_X12_fit D s p d ∧ p_X11_fit F s p d ∧ p_X12_fit F s p d := by
    intro F hm
    have hIF := Inv_cg hm hI
    have hc := hIF.iv.ct; unfold I_ct at hc
    have e2 : v_X12_fit F s p d = v_X12_fit D s p d := by
      unfold v_X12_fit
      rw [fit_cg hm]
      have a1 : v_X12_isServant F s = v_X12_isServant D s := by unfold v_X12_isServant; rw [hm 70 rfl]; rfl
      have a2 : v_X12_isPlace F p = v_X12_isPlace D p := by unfold v_X12_isPlace; rw [hm 70 rfl]; rfl
      rw [a1, a2]; rfl
    refine ⟨?_, e2, ?_, ?_⟩
    · rw [← e2]
      unfold v_X11_fit v_X12_fit
      rw [xSv hIF.iv, xPl hIF.iv, xDy]
      split
      · rfl
      split
      · rfl
      split
      · rfl
      rename_i c1 c2 c3
      exact fit_eq hIF ((isSv hIF.iv).mp c1) ((isPl hIF.iv).mp c2) (isDy.mp c3)
    · unfold p_X11_fit
      rw [xSv hIF.iv, xPl hIF.iv, xDy]
      split
      · trivial
      split
      · trivial
      split
      · trivial
      rename_i c1 c2 c3
      have z1 := (isSv hIF.iv).mp c1
      have z2 := (isPl hIF.iv).mp c2
      exact ⟨hIF.rb, by omega, by omega, pfitX hIF z1 z2 (isDy.mp c3)⟩
    · unfold p_X12_fit
      split
      · trivial
      split
      · trivial
      split
      · trivial
      rename_i c1 c2 c3
      exact pfitM hIF ((isSv hIF.iv).mp c1) ((isPl hIF.iv).mp c2) (isDy.mp c3)
  refine Rd_fx (v := v_X12_fit D s p d) (fun F hm => ?_) (fun F hm => ?_)
  · exact (Ev_i (ev_X11_fit s p d h1 h2 h3 (key F hm).2.2.1) (key F hm).1).le (by decide)
  · exact (Ev_i (ev_X12_fit s p d h1 h2 h3 (key F hm).2.2.2) (key F hm).2.1).le (by decide)
end T1
