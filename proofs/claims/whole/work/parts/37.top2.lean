/-! More calls that only ask. -/
section T2
variable {A : aA} {D : aD}
theorem c_in (hI : Inv D) (s d k : Int) (h1 : rg s) (h2 : rg d) (h3 : rg k) : Rd 79 142 [am_i (wz s), am_i (wz d), am_i (wz k)] A D := by
  have hc := hI.iv.ct; unfold I_ct at hc
  have e : v_X11_in D s d k = v_X12_in D s d k := by
    unfold v_X11_in v_X12_in
    rw [xSv hI.iv, xDy, xDy]
    have hb := inOf_b (D := D) (s := s) (d := d) (k := k) (by omega)
    by_cases c : w_inOf D s d k < 0
    · rw [if_pos c, show w_inOf D s d k = -1 by omega]
    · rw [if_neg c, (hI.iv.pg _ (by omega) (by omega)).1]
  refine ⟨_, (Ev_i (ev_X11_in (n := 0) s d k h1 h2 h3 ?_) e).le (by decide), (ev_X12_in (n := 0) s d k h1 h2 h3 ?_).le (by decide)⟩
  · unfold p_X11_in
    rw [xSv hI.iv, xDy, xDy]
    split
    · trivial
    split
    · trivial
    split
    · trivial
    rename_i c2 c3
    exact ⟨hI.iv, isDy.mp c2, isDy.mp c3⟩
  · unfold p_X12_in
    split
    · trivial
    split
    · trivial
    split
    · trivial
    rename_i c2 c3
    exact ⟨hI.iv, isDy.mp c2, isDy.mp c3⟩
theorem c_holder (hI : Inv D) (p d k : Int) (h1 : rg p) (h2 : rg d) (h3 : rg k) : Rd 80 144 [am_i (wz p), am_i (wz d), am_i (wz k)] A D := by
  refine ⟨v_X12_holder D p d k, (rl_X11_holder (n := 0) p d k h1 h2 h3 ?_).le (by decide), (ev_X12_holder (n := 0) p d k h1 h2 h3 ?_).le (by decide)⟩
  · unfold v_X12_holder
    rw [xPl hI.iv, xDy, xDy]
    by_cases c1 : v_X12_isPlace D p = 0
    · rw [if_pos c1, if_pos c1]; exact ⟨rfl, rfl⟩
    rw [if_neg c1, if_neg c1]
    by_cases c2 : v_X12_isDay D d = 0
    · rw [if_pos c2, if_pos c2]; exact ⟨rfl, rfl⟩
    rw [if_neg c2, if_neg c2]
    by_cases c3 : v_X12_isDay D k = 0
    · rw [if_pos c3, if_pos c3]; exact ⟨rfl, rfl⟩
    rw [if_neg c3, if_neg c3]
    exact K_holder h1 h2 h3 ⟨hI.iv, isDy.mp c2, isDy.mp c3⟩
  · unfold p_X12_holder
    split
    · trivial
    split
    · trivial
    split
    · trivial
    rename_i c2 c3
    exact ⟨hI.iv, isDy.mp c2, isDy.mp c3⟩
theorem c_twice (hI : Inv D) (s k w : Int) (h1 : rg s) (h2 : rg k) (h3 : rg w) : Rd 81 145 [am_i (wz s), am_i (wz k), am_i (wz w)] A D := by
  refine ⟨if v_X12_isServant D s = 0 then -1 else if v_X12_isDay D k = 0 then -1 else if v_X12_isIn D w 0 1 = 0 then -1 else twF D s k w 0, (rl_X11_twice (n := 0) s k w h1 h2 h3 ?_).le (by decide), (rl_X12_twice (n := 0) s k w h1 h2 h3 ?_).le (by decide)⟩
  · rw [xSv hI.iv, xDy, inb_eq]
    by_cases c1 : v_X12_isServant D s = 0
    · rw [if_pos c1, if_pos c1]; exact ⟨rfl, rfl⟩
    rw [if_neg c1, if_neg c1]
    by_cases c2 : v_X12_isDay D k = 0
    · rw [if_pos c2, if_pos c2]; exact ⟨rfl, rfl⟩
    rw [if_neg c2, if_neg c2]
    by_cases c3 : v_X12_isIn D w 0 1 = 0
    · rw [if_pos c3, if_pos c3]; exact ⟨rfl, rfl⟩
    rw [if_neg c3, if_neg c3]
    exact K_twice h1 h2 h3 hI.iv (isDy.mp c2)
  · by_cases c1 : v_X12_isServant D s = 0
    · rw [if_pos c1, if_pos c1]; exact ⟨rfl, rfl⟩
    rw [if_neg c1, if_neg c1]
    by_cases c2 : v_X12_isDay D k = 0
    · rw [if_pos c2, if_pos c2]; exact ⟨rfl, rfl⟩
    rw [if_neg c2, if_neg c2]
    by_cases c3 : v_X12_isIn D w 0 1 = 0
    · rw [if_pos c3, if_pos c3]; exact ⟨rfl, rfl⟩
    rw [if_neg c3, if_neg c3]
    exact K_twice29 h1 h2 h3 hI.iv
theorem c_wages (hI : Inv D) (p a b : Int) (h1 : rg p) (h2 : rg a) (h3 : rg b) : Rd 83 150 [am_i (wz p), am_i (wz a), am_i (wz b)] A D := by
  have hc := hI.iv.ct; unfold I_ct at hc
  have e : v_X11_wages D p a b = v_X12_wages D p a b := by
    unfold v_X11_wages v_X12_wages
    rw [xPg hI.iv, xDy, xDy]
    split
    · rfl
    split
    · rfl
    split
    · rfl
    rename_i c1 c2 c3
    have z1 := (isPg hI.iv).mp c1
    have z2 := isDy.mp c2
    have z3 := isDy.mp c3
    have hg := hI.iv.pg p z1.1 z1.2
    rw [(plc_eq hI.iv z1.1 z1.2).2.2.2.1, hg.2.2.2.2.2.1, hg.2.2.2.1, wr_id (z := b + 1) (by omega) (by omega), Int.min_eq_left (by omega : b + 1 ≤ 1000)]
  refine ⟨_, (Ev_i (ev_X11_wages (n := 0) p a b h1 h2 h3 ?_) e).le (by decide), (ev_X12_wages (n := 0) p a b h1 h2 h3 ?_).le (by decide)⟩
  · unfold p_X11_wages
    rw [xPg hI.iv, xDy, xDy]
    split
    · trivial
    split
    · trivial
    split
    · trivial
    rename_i c1 c2 c3
    have z1 := (isPg hI.iv).mp c1
    split
    · omega
    · trivial
  · unfold p_X12_wages
    split
    · trivial
    split
    · trivial
    split
    · trivial
    rename_i c1 c2 c3
    have z1 := (isPg hI.iv).mp c1
    have hg := hI.iv.pg p z1.1 z1.2
    split
    · refine ⟨by omega, ?_⟩
      split <;> omega
    · trivial
theorem c_fault (hI : Inv D) : Rd 86 171 [] A D := ⟨_, (Ev_i (ev_X11_fault (n := 0) (A := A) (D := D)) hI.iv.tp.2.1).le (by decide), (ev_X12_fault (n := 0)).le (by decide)⟩
theorem isTm (hI : Inv D) {a : Int} : ¬ v_X12_isIn D a 0 (wr (D 70 51 - 1)) = 0 ↔ 0 ≤ a ∧ a < D 70 51 := by
  have hu := hI.iv.cu; unfold I_cu at hu
  rw [isI, wr_id (by omega) (by omega)]; omega
theorem c_written (hI : Inv D) (a b : Int) (h1 : rg a) (h2 : rg b) : Rd 90 181 [am_i (wz a), am_i (wz b)] A D := by
  have hu := hI.iv.cu; unfold I_cu at hu
  have e : v_X11_written D a b = v_X12_written D a b := by
    unfold v_X11_written v_X12_written
    rw [inb_eq, hu.1.1]
    split
    · rfl
    rename_i c
    have z := (isTm hI).mp c
    have ht := hI.iv.tm a z.1 z.2
    rw [ht.1, ht.2.1, ht.2.2.1, ht.2.2.2.1]
  refine ⟨_, (Ev_i (ev_X11_written (n := 0) a b h1 h2 ?_) e).le (by decide), (ev_X12_written (n := 0) a b h1 h2 ?_).le (by decide)⟩
  · unfold p_X11_written
    rw [inb_eq, hu.1.1]
    split
    · trivial
    rename_i c
    exact (isTm hI).mp c
  · unfold p_X12_written
    split
    · trivial
    rename_i c
    have z := (isTm hI).mp c
    repeat' split
    all_goals first | trivial | omega
theorem c_isFalse (hI : Inv D) (a k : Int) (h1 : rg a) (h2 : rg k) : Rd 91 183 [am_i (wz a), am_i (wz k)] A D := by
  have hu := hI.iv.cu; unfold I_cu at hu
  have e : v_X11_isFalse D a k = v_X12_isFalse D a k := by
    unfold v_X11_isFalse v_X12_isFalse
    rw [inb_eq, hu.1.1, xDy]
  refine ⟨_, (Ev_i (ev_X11_isFalse (n := 0) a k h1 h2 ?_) e).le (by decide), (ev_X12_isFalse (n := 0) a k h1 h2 ?_).le (by decide)⟩
  · unfold p_X11_isFalse
    rw [inb_eq, hu.1.1, xDy]
    split
    · trivial
    split
    · trivial
    rename_i c1 c2
    have z := (isTm hI).mp c1
    exact ⟨z, hI.iv, z, isDy.mp c2⟩
  · unfold p_X12_isFalse
    split
    · trivial
    split
    · trivial
    rename_i c1 c2
    exact ⟨hI.iv, (isTm hI).mp c1, isDy.mp c2⟩
theorem c_leftMore (hI : Inv D) (h : Int) (h1 : rg h) : Rd 105 210 [am_i (wz h)] A D := by
  have hc := hI.iv.ct; unfold I_ct at hc
  have e : v_X11_leftMore D h = w_leftMore D h := by
    unfold v_X11_leftMore w_leftMore
    rw [xHs hI.iv, hc.1.1]
    split
    · rfl
    have b1 := ko_b hI.iv (h := -1) (k := D 70 0)
    have hb := cf_b (P := hlP D (-1)) (D 70 4) (by omega)
    have hw : 0 ≤ w_hundredths D (-1) (D 70 0) ∧ w_hundredths D (-1) (D 70 0) ≤ 6000 := by
      unfold w_hundredths
      split
      · omega
      · exact td_b (by omega) (by omega) (by omega)
    rw [wr_id (z := 2 * _) (by omega) (by omega)]
    generalize w_hundredths D (-1) (D 70 0) = z1
    generalize w_hundredths D h (D 70 0) = z2
    generalize w_knownOf D h (D 70 0) = z3
    repeat' split
    all_goals omega
  refine ⟨_, (Ev_i (ev_X11_leftMore (n := 0) h h1 ?_) e).le (by decide), (ev_X12_leftMore (n := 0) hI.iv h h1).le (by decide)⟩
  unfold p_X11_leftMore
  have q1 : p_knownOf D h (D 32 14) := ⟨hI.iv, by omega⟩
  have q2 : p_hundredths D h (D 32 14) := ⟨hI.iv, hc.1.1⟩
  have q3 : p_hundredths D (-1) (D 32 14) := ⟨hI.iv, hc.1.1⟩
  repeat' (first | exact q1 | exact q2 | exact q3 | apply And.intro | split)
  all_goals trivial
theorem c_count (hI : Inv D) (a : Int) (h1 : rg a) : Rd 106 211 [am_i (wz a)] A D := by
  have hc := hI.iv.ct; unfold I_ct at hc
  have hu := hI.iv.cu; unfold I_cu at hu
  have ht := hI.iv.tp; unfold I_tp at ht
  have hr := hI.rb.1
  have e : v_X11_count D a = w_count D a := by
    unfold v_X11_count w_count
    rw [hc.1.1, hc.2.1.1, hc.2.2.1.1, hc.2.2.2.1.1, hc.2.2.2.2.1, hr.1, hu.1.1, hu.2.1.1, hu.2.2.1.1, hu.2.2.2.1, ht.1.1]
  refine ⟨_, (Ev_i (ev_X11_count (n := 0) a h1 ?_) e).le (by decide), (ev_X12_count (n := 0) hI.iv a h1).le (by decide)⟩
  unfold p_X11_count
  have q : p_I D := hI.iv
  repeat' split
  all_goals first | trivial | exact q
/-- fees -/
theorem fee_eq (hI : Inv D) {p w : Int} (z0 : 0 ≤ p) (z1 : p < D 70 4) : v_X11_feeOf D p w = v_X12_feeOf D p w ∧ 0 ≤ v_X12_feeOf D p w ∧ v_X12_feeOf D p w ≤ 20000 := by
  have hg := hI.iv.pg p z0 z1
  have hpl := hI.iv.pl (D 84 p) (by omega) (by omega)
  have hf := fhXM hI (which := w) (s := D 83 p) (p := D 84 p) (d := D 85 p) (Or.inl rfl : (0 : Int) = 0 ∨ (0 : Int) = 4)
  unfold v_X11_feeOf v_X7_fee v_X12_feeOf
  rw [hg.2.2.2.1, hg.2.1, hg.2.2.1, hpl.2.2.2.2.1]
  rcases hf with q | ⟨q1, q2, q3, q4, q5⟩
  · rw [if_pos (by omega), if_pos q.2]; omega
  · rw [if_neg (by omega), if_neg (show ¬ w_fhM D 0 w (D 84 p) (D 83 p) (D 85 p) = -1 by omega), q3, (q5 rfl).1]
    have q6 := (q5 rfl).2
    refine ⟨rfl, ?_⟩
    generalize D 97 (w_fhM D 0 w (D 84 p) (D 83 p) (D 85 p)) = h at *
    generalize D 96 (w_fhM D 0 w (D 84 p) (D 83 p) (D 85 p)) = m at *
    have w1 : 1 ≤ D 79 (D 84 p) ∧ D 79 (D 84 p) ≤ 999 := by omega
    generalize D 79 (D 84 p) = wg at *
    have m1 : 0 ≤ wg * h := Int.mul_nonneg (by omega) (by omega)
    have m2 : wg * h ≤ 999 * 300 := Int.mul_le_mul (by omega) (by omega) (by omega) (by omega)
    rw [wr_id (z := wg * h) (by omega) (by omega), Int.tdiv_eq_ediv_of_nonneg m1, wr_id (z := wg * h / 100) (by omega) (by omega), wr_id (by omega) (by omega)]
    omega
theorem c_placed (hI : Inv D) (p a : Int) (h1 : rg p) (h2 : rg a) : Rd 82 149 [am_i (wz p), am_i (wz a)] A D := by
  have key : ∀ F, Sm F D → v_X11_placed F p a = v_X12_placed D p a ∧ v_X12_placed F p a = v_X12_placed D p a ∧ p_X11_placed F p a ∧ p_X12_placed F p a := by
    intro F hm
    have hIF := Inv_cg hm hI
    have hc := hIF.iv.ct; unfold I_ct at hc
    have e2 : v_X12_placed F p a = v_X12_placed D p a := by
      unfold v_X12_placed v_X12_backOf v_X12_owedOf v_X12_feeOf w_fhM v_X12_tells v_X12_isPlacing v_X12_isIn
      simp only [hm 83 rfl, hm 84 rfl, hm 85 rfl, hm 86 rfl, hm 87 rfl, hm 88 rfl, hm 89 rfl, hm 90 rfl, hm 91 rfl, hm 96 rfl, hm 97 rfl, hm 79 rfl, hm 70 rfl, last_cg hm, if_cg hm, fh_cg hm]
    refine ⟨?_, e2, ?_⟩
    · rw [← e2]
      unfold v_X11_placed v_X12_placed
      rw [xPg hIF.iv]
      by_cases c : v_X12_isPlacing F p = 0
      · rw [if_pos c, if_pos c]
      rw [if_neg c, if_neg c]
      have z := (isPg hIF.iv).mp c
      have hg := hIF.iv.pg p z.1 z.2
      have hpl := hIF.iv.pl (F 84 p) (by omega) (by omega)
      have f0 := fee_eq hIF (w := 0) z.1 z.2
      have f1 := fee_eq hIF (w := 1) z.1 z.2
      have eb : v_X11_givenBack F p = v_X12_backOf F p := by
        obtain ⟨⟨_, h1, h2, _⟩, _⟩ := hdr hIF (F 85 p)
        unfold v_X11_givenBack v_X12_backOf
        rw [hg.2.2.2.1, hg.2.2.2.2.2.1, f0.1, h1, h2]
        unfold tl
        by_cases c1 : F 88 p = -1
        · rw [if_pos c1, if_pos c1]
        rw [if_neg c1, if_neg c1]
        by_cases c2 : w_last F (w_inForce F (F 85 p)) 2 0 = -1
        · rw [if_pos c2, if_pos c2, if_pos c2, Int.mul_zero]
          split <;> rfl
        · rw [if_neg c2, if_neg c2, if_neg c2]
      have eo : v_X11_owed F p = v_X12_owedOf F p := by
        obtain ⟨⟨h0, _⟩, _⟩ := hdr hIF (F 88 p)
        unfold v_X11_owed v_X12_owedOf
        rw [hg.2.2.2.2.2.1, (plc_eq hIF.iv z.1 z.2).2.2.2.1, h0, tl_eq]
        by_cases c1 : F 88 p = -1
        · rw [if_pos c1, if_pos c1]
        rw [if_neg c1, if_neg c1]
        have q : F 2508 p = F 90 p ∧ F 2507 p = F 89 p := by omega
        rw [q.1, q.2]
      rw [srv_eq hIF.iv z.1 z.2, (plc_eq hIF.iv z.1 z.2).1, hg.2.2.2.1, hg.2.2.2.2.2.1, hg.2.2.2.2.1, hg.2.2.2.2.2.2.1, hg.2.2.2.2.2.2.2.1, f0.1, f1.1, eb, eo]
      have e4 : F 2508 p = if F 88 p = -1 then -1 else F 90 p := by omega
      rw [e4]
    · have hpp : ∀ w, ¬ v_X12_isPlacing F p = 0 → p_X11_feeOf F p w ∧ p_X12_feeOf F p w := fun w c => by
        have z := (isPg hIF.iv).mp c
        have hg := hIF.iv.pg p z.1 z.2
        have hf := fhXM hIF (which := w) (s := F 83 p) (p := F 84 p) (d := F 85 p) (Or.inl rfl : (0 : Int) = 0 ∨ (0 : Int) = 4)
        constructor
        · unfold p_X11_feeOf p_X7_fee
          rw [hg.2.2.2.1, hg.2.1, hg.2.2.1]
          exact ⟨hIF.rb, pfhX hIF (Or.inl rfl) (by omega) (by omega) (by omega)⟩
        · refine ⟨by omega, pfhM hIF (Or.inl rfl) (by omega) (by omega) (by omega), ?_⟩
          split
          · trivial
          · exact ⟨by omega, by omega⟩
      constructor
      · unfold p_X11_placed
        rw [xPg hIF.iv]
        by_cases c : v_X12_isPlacing F p = 0
        · rw [if_pos c]; trivial
        rw [if_neg c]
        have z := (isPg hIF.iv).mp c
        have hb : p_X11_givenBack F p := by
          refine ⟨hIF.rb, ?_⟩
          split
          · trivial
          split
          · exact (hpp 0 c).1
          · trivial
        have ho : p_X11_owed F p := by
          unfold p_X11_owed
          split
          · trivial
          split
          · trivial
          split
          · trivial
          · exact hIF.rb
        refine ⟨by omega, ?_⟩
        by_cases c0 : a = 0
        · rw [if_pos c0]; trivial
        rw [if_neg c0]
        by_cases c1 : a = 1
        · rw [if_pos c1]; trivial
        rw [if_neg c1]
        by_cases c2 : a = 2
        · rw [if_pos c2]; trivial
        rw [if_neg c2]
        by_cases c3 : a = 3
        · rw [if_pos c3]; trivial
        rw [if_neg c3]
        by_cases c4 : a = 4
        · rw [if_pos c4]; trivial
        rw [if_neg c4]
        by_cases c5 : a = 5
        · rw [if_pos c5]; trivial
        rw [if_neg c5]
        by_cases c6 : a = 6
        · rw [if_pos c6]; trivial
        rw [if_neg c6]
        by_cases c7 : a = 7
        · rw [if_pos c7]; trivial
        rw [if_neg c7]
        by_cases c8 : a = 8
        · rw [if_pos c8]; exact (hpp 0 c).1
        rw [if_neg c8]
        by_cases c9 : a = 9
        · rw [if_pos c9]; exact (hpp 1 c).1
        rw [if_neg c9]
        by_cases c10 : a = 10
        · rw [if_pos c10]; exact hb
        rw [if_neg c10]
        by_cases c11 : a = 11
        · rw [if_pos c11]; exact ho
        rw [if_neg c11]; trivial
      · unfold p_X12_placed
        by_cases c : v_X12_isPlacing F p = 0
        · rw [if_pos c]; trivial
        rw [if_neg c]
        have z := (isPg hIF.iv).mp c
        have hg := hIF.iv.pg p z.1 z.2
        have hl := pLast hIF (F 85 p) 2 0
        have hb : p_X12_backOf F p := by
          refine ⟨by omega, hIF.rb, hl, ?_⟩
          split
          · trivial
          split
          · trivial
          · refine ⟨?_, ?_⟩
            · rcases last_b hIF (a := 2) (b := 0) hl.2.1 hl.2.2 with q | q <;> omega
            · split
              · exact (hpp 0 c).2
              · trivial
        have ho : p_X12_owedOf F p := by
          refine ⟨by omega, ?_⟩
          split
          · trivial
          split
          · trivial
          split
          · trivial
          · exact ⟨pTells hIF _ _ _ _, by omega⟩
        by_cases c0 : a = 0
        · rw [if_pos c0]; omega
        rw [if_neg c0]
        by_cases c1 : a = 1
        · rw [if_pos c1]; omega
        rw [if_neg c1]
        by_cases c2 : a = 2
        · rw [if_pos c2]; omega
        rw [if_neg c2]
        by_cases c3 : a = 3
        · rw [if_pos c3]; omega
        rw [if_neg c3]
        by_cases c4 : a = 4
        · rw [if_pos c4]; omega
        rw [if_neg c4]
        by_cases c5 : a = 5
        · rw [if_pos c5]; omega
        rw [if_neg c5]
        by_cases c6 : a = 6
        · rw [if_pos c6]; omega
        rw [if_neg c6]
        by_cases c7 : a = 7
        · rw [if_pos c7]; omega
        rw [if_neg c7]
        by_cases c8 : a = 8
        · rw [if_pos c8]; exact (hpp 0 c).2
        rw [if_neg c8]
        by_cases c9 : a = 9
        · rw [if_pos c9]; exact (hpp 1 c).2
        rw [if_neg c9]
        by_cases c10 : a = 10
        · rw [if_pos c10]; exact hb
        rw [if_neg c10]
        by_cases c11 : a = 11
        · rw [if_pos c11]; exact ho
        rw [if_neg c11]; trivial
  refine Rd_fx (v := v_X12_placed D p a) (fun F hm => ?_) (fun F hm => ?_)
  · exact (Ev_i (ev_X11_placed p a h1 h2 (key F hm).2.2.1) (key F hm).1).le (by decide)
  · exact (Ev_i (ev_X12_placed p a h1 h2 (key F hm).2.2.2) (key F hm).2.1).le (by decide)
end T2
